theorem dX11_surely_0 : decode cX11_surely 0 = .ok (.aload_n 0, 1) := by decide +kernel
theorem dX11_surely_1 : decode cX11_surely 1 = .ok (.getfield 83, 3) := by decide +kernel
theorem dX11_surely_4 : decode cX11_surely 4 = .ok (.iconst 3, 1) := by decide +kernel
theorem dX11_surely_5 : decode cX11_surely 5 = .ok (.iaload, 1) := by decide +kernel
theorem dX11_surely_6 : decode cX11_surely 6 = .ok (.ireturn, 1) := by decide +kernel
set_option maxHeartbeats 4000000 in
set_option maxRecDepth 100000 in
theorem s_X11_surely (l : Launch) (D : va_G) (ca : Nat → ClassId) (sz : Nat) (h0 : Nat) (h0_tape : Nat) (h0_law : Nat) (h0_standing : Nat) (h0_saying : Nat) (h0_courtReader : Nat) (h0_bookReader : Nat) (h0_sentenceReader : Nat) (h0_bench : Nat) (h0_whatIf : Nat) (h0_history : Nat) (h0_images : Nat) (h0_latest : Nat) (h0_latestBook : Nat) (h0_latestRoll : Nat) (h0_rollLength : Int32) (F_h0_latest : Nat → Int32) (i_h0_rollLength : rg 0 40 h0_rollLength) : oMet l yX11_surely wsX11_surely ({ frames := 0, cells := 0, slots := 0, locals := 0 } : Room) [.ref h0] D ca sz [(h0, .inr (10, [.ref h0_tape, .ref h0_law, .ref h0_standing, .ref h0_saying, .ref h0_courtReader, .ref h0_bookReader, .ref h0_sentenceReader, .ref h0_bench, .ref h0_whatIf, .ref h0_history, .ref h0_images, .ref h0_latest, .ref h0_latestBook, .ref h0_latestRoll, .int h0_rollLength])), (aI ca h0_latest 7 F_h0_latest)] (oQi D (fun (r : Int32) (u : Unit) => (r = F_h0_latest (3 : Int32).toNatClampNeg)) (fun (u : Unit) => [(h0, .inr (10, [.ref h0_tape, .ref h0_law, .ref h0_standing, .ref h0_saying, .ref h0_courtReader, .ref h0_bookReader, .ref h0_sentenceReader, .ref h0_bench, .ref h0_whatIf, .ref h0_history, .ref h0_images, .ref h0_latest, .ref h0_latestBook, .ref h0_latestRoll, .int h0_rollLength])), (aI ca h0_latest 7 F_h0_latest)])) 0 0 := by
  refine oM (cc := cX11_surely) (maxL := 1) (ret := (some .int)) (by decide) rfl (Nat.le_of_ble_eq_true rfl) [(0, .ref h0)] rfl ?_
  intro p e s m below meth c A H locs ls hx hb hr hml hts hown hlocks hin hK hP hD hA hS hl
  have hown : s.vm.findClass RX11 = some m.cls := hown
  have k1 := hts (.fieldLink RX11 83 "LidCourt" "latest" "[I") (by decide +kernel)
  have k2 : ∀ w ∈ wsX110, w ∈ wsX11_surely := fun _ h => List.mem_cons_of_mem _ (List.mem_append_right _ h)
  refine lv_aload_n hx hb dX11_surely_0 rfl (lv_at hl 0 rfl) ?_
  refine va_get (D := D) (ci := 10) (v := .ref h0_latest) (C := RX11) (T := TX11) (N := 15) hx hb hts k2 hown hK.1 hP 0 rfl rfl 11 (by decide) k1 (fun _ h9 => h9) rfl dX11_surely_1 ?_
  refine lv_iconst (v := 3) hx hb dX11_surely_4 (by decide) ?_
  refine va_iald hx hb hK.1 hP 1 0 rfl rfl (rg_in (⟨by decide, by decide⟩ : rg 3 3 (3 : Int32)) (by decide) (by decide)) dX11_surely_5 ?_
  refine lv_topi (fun x_2 ex_2 => ?_)
  exact oE_i hx hb hr rfl hlocks hP hD hS () [0, 1] rfl (by decide) ex_2 (Nat.le_of_ble_eq_true rfl) (Nat.le_of_ble_eq_true rfl) dX11_surely_6
theorem dX11_ask_0 : decode cX11_ask 0 = .ok (.aload_n 0, 1) := by decide +kernel
theorem dX11_ask_1 : decode cX11_ask 1 = .ok (.getfield 83, 3) := by decide +kernel
theorem dX11_ask_4 : decode cX11_ask 4 = .ok (.iconst 4, 1) := by decide +kernel
theorem dX11_ask_5 : decode cX11_ask 5 = .ok (.iaload, 1) := by decide +kernel
theorem dX11_ask_6 : decode cX11_ask 6 = .ok (.ireturn, 1) := by decide +kernel
set_option maxHeartbeats 4000000 in
set_option maxRecDepth 100000 in
theorem s_X11_ask (l : Launch) (D : va_G) (ca : Nat → ClassId) (sz : Nat) (h0 : Nat) (h0_tape : Nat) (h0_law : Nat) (h0_standing : Nat) (h0_saying : Nat) (h0_courtReader : Nat) (h0_bookReader : Nat) (h0_sentenceReader : Nat) (h0_bench : Nat) (h0_whatIf : Nat) (h0_history : Nat) (h0_images : Nat) (h0_latest : Nat) (h0_latestBook : Nat) (h0_latestRoll : Nat) (h0_rollLength : Int32) (F_h0_latest : Nat → Int32) (i_h0_rollLength : rg 0 40 h0_rollLength) : oMet l yX11_ask wsX11_ask ({ frames := 0, cells := 0, slots := 0, locals := 0 } : Room) [.ref h0] D ca sz [(h0, .inr (10, [.ref h0_tape, .ref h0_law, .ref h0_standing, .ref h0_saying, .ref h0_courtReader, .ref h0_bookReader, .ref h0_sentenceReader, .ref h0_bench, .ref h0_whatIf, .ref h0_history, .ref h0_images, .ref h0_latest, .ref h0_latestBook, .ref h0_latestRoll, .int h0_rollLength])), (aI ca h0_latest 7 F_h0_latest)] (oQi D (fun (r : Int32) (u : Unit) => (r = F_h0_latest (4 : Int32).toNatClampNeg)) (fun (u : Unit) => [(h0, .inr (10, [.ref h0_tape, .ref h0_law, .ref h0_standing, .ref h0_saying, .ref h0_courtReader, .ref h0_bookReader, .ref h0_sentenceReader, .ref h0_bench, .ref h0_whatIf, .ref h0_history, .ref h0_images, .ref h0_latest, .ref h0_latestBook, .ref h0_latestRoll, .int h0_rollLength])), (aI ca h0_latest 7 F_h0_latest)])) 0 0 := by
  refine oM (cc := cX11_ask) (maxL := 1) (ret := (some .int)) (by decide) rfl (Nat.le_of_ble_eq_true rfl) [(0, .ref h0)] rfl ?_
  intro p e s m below meth c A H locs ls hx hb hr hml hts hown hlocks hin hK hP hD hA hS hl
  have hown : s.vm.findClass RX11 = some m.cls := hown
  have k1 := hts (.fieldLink RX11 83 "LidCourt" "latest" "[I") (by decide +kernel)
  have k2 : ∀ w ∈ wsX110, w ∈ wsX11_ask := fun _ h => List.mem_cons_of_mem _ (List.mem_append_right _ h)
  refine lv_aload_n hx hb dX11_ask_0 rfl (lv_at hl 0 rfl) ?_
  refine va_get (D := D) (ci := 10) (v := .ref h0_latest) (C := RX11) (T := TX11) (N := 15) hx hb hts k2 hown hK.1 hP 0 rfl rfl 11 (by decide) k1 (fun _ h9 => h9) rfl dX11_ask_1 ?_
  refine lv_iconst (v := 4) hx hb dX11_ask_4 (by decide) ?_
  refine va_iald hx hb hK.1 hP 1 0 rfl rfl (rg_in (⟨by decide, by decide⟩ : rg 4 4 (4 : Int32)) (by decide) (by decide)) dX11_ask_5 ?_
  refine lv_topi (fun x_2 ex_2 => ?_)
  exact oE_i hx hb hr rfl hlocks hP hD hS () [0, 1] rfl (by decide) ex_2 (Nat.le_of_ble_eq_true rfl) (Nat.le_of_ble_eq_true rfl) dX11_ask_6
theorem dX0_freesByStrike_0 : decode cX0_freesByStrike 0 = .ok (.iconst 0, 1) := by decide +kernel
theorem dX0_freesByStrike_1 : decode cX0_freesByStrike 1 = .ok (.istore_n 3, 1) := by decide +kernel
theorem dX0_freesByStrike_2 : decode cX0_freesByStrike 2 = .ok (.iload_n 3, 1) := by decide +kernel
theorem dX0_freesByStrike_3 : decode cX0_freesByStrike 3 = .ok (.bipush 10, 2) := by decide +kernel
theorem dX0_freesByStrike_5 : decode cX0_freesByStrike 5 = .ok (.if_icmp .ge 33, 3) := by decide +kernel
theorem dX0_freesByStrike_8 : decode cX0_freesByStrike 8 = .ok (.iload_n 1, 1) := by decide +kernel
theorem dX0_freesByStrike_9 : decode cX0_freesByStrike 9 = .ok (.iload_n 3, 1) := by decide +kernel
theorem dX0_freesByStrike_10 : decode cX0_freesByStrike 10 = .ok (.ishr, 1) := by decide +kernel
theorem dX0_freesByStrike_11 : decode cX0_freesByStrike 11 = .ok (.iconst 1, 1) := by decide +kernel
theorem dX0_freesByStrike_12 : decode cX0_freesByStrike 12 = .ok (.iand, 1) := by decide +kernel
theorem dX0_freesByStrike_13 : decode cX0_freesByStrike 13 = .ok (.ifCond .eq 19, 3) := by decide +kernel
theorem dX0_freesByStrike_16 : decode cX0_freesByStrike 16 = .ok (.aload_n 0, 1) := by decide +kernel
theorem dX0_freesByStrike_17 : decode cX0_freesByStrike 17 = .ok (.getfield 11, 3) := by decide +kernel
theorem dX0_freesByStrike_20 : decode cX0_freesByStrike 20 = .ok (.iload_n 1, 1) := by decide +kernel
theorem dX0_freesByStrike_21 : decode cX0_freesByStrike 21 = .ok (.iconst 1, 1) := by decide +kernel
theorem dX0_freesByStrike_22 : decode cX0_freesByStrike 22 = .ok (.iload_n 3, 1) := by decide +kernel
theorem dX0_freesByStrike_23 : decode cX0_freesByStrike 23 = .ok (.ishl, 1) := by decide +kernel
theorem dX0_freesByStrike_24 : decode cX0_freesByStrike 24 = .ok (.ixor, 1) := by decide +kernel
theorem dX0_freesByStrike_25 : decode cX0_freesByStrike 25 = .ok (.baload, 1) := by decide +kernel
theorem dX0_freesByStrike_26 : decode cX0_freesByStrike 26 = .ok (.iload_n 2, 1) := by decide +kernel
theorem dX0_freesByStrike_27 : decode cX0_freesByStrike 27 = .ok (.if_icmp .ne 5, 3) := by decide +kernel
theorem dX0_freesByStrike_30 : decode cX0_freesByStrike 30 = .ok (.iload_n 2, 1) := by decide +kernel
theorem dX0_freesByStrike_31 : decode cX0_freesByStrike 31 = .ok (.ireturn, 1) := by decide +kernel
theorem dX0_freesByStrike_32 : decode cX0_freesByStrike 32 = .ok (.iinc 3 1, 3) := by decide +kernel
theorem dX0_freesByStrike_35 : decode cX0_freesByStrike 35 = .ok (.goto (-33), 3) := by decide +kernel
theorem dX0_freesByStrike_38 : decode cX0_freesByStrike 38 = .ok (.iload_n 2, 1) := by decide +kernel
theorem dX0_freesByStrike_39 : decode cX0_freesByStrike 39 = .ok (.ifCond .ne 7, 3) := by decide +kernel
theorem dX0_freesByStrike_42 : decode cX0_freesByStrike 42 = .ok (.iconst 1, 1) := by decide +kernel
theorem dX0_freesByStrike_43 : decode cX0_freesByStrike 43 = .ok (.goto 4, 3) := by decide +kernel
theorem dX0_freesByStrike_46 : decode cX0_freesByStrike 46 = .ok (.iconst 0, 1) := by decide +kernel
theorem dX0_freesByStrike_47 : decode cX0_freesByStrike 47 = .ok (.ireturn, 1) := by decide +kernel
set_option maxHeartbeats 4000000 in
set_option maxRecDepth 100000 in
theorem s_X0_freesByStrike (l : Launch) (D : va_G) (ca : Nat → ClassId) (sz : Nat) (h0 : Nat) (a1 : Int32) (a2 : Int32) (h0_frees : Nat) (h0_low : Nat) (h0_high : Nat) (h0_letGoWeight : Nat) (h0_holdWeight : Nat) (h0_heardWith : Nat) (F_h0_frees : Nat → Int32) (i_a1 : rg 0 1023 a1) (i_a2 : rg 0 1 a2) : oMet l yX0_freesByStrike wsX0_freesByStrike ({ frames := 0, cells := 0, slots := 0, locals := 0 } : Room) [.ref h0, .int a1, .int a2] D ca sz [(h0, .inr (0, [.ref h0_frees, .ref h0_low, .ref h0_high, .ref h0_letGoWeight, .ref h0_holdWeight, .ref h0_heardWith])), (aZ ca h0_frees 1024 F_h0_frees)] (oQi D (fun (r : Int32) (u : Unit) => (rg 0 1 r)) (fun (u : Unit) => [(h0, .inr (0, [.ref h0_frees, .ref h0_low, .ref h0_high, .ref h0_letGoWeight, .ref h0_holdWeight, .ref h0_heardWith])), (aZ ca h0_frees 1024 F_h0_frees)])) 0 0 := by
  refine oM (cc := cX0_freesByStrike) (maxL := 4) (ret := (some .boolean)) (by decide) rfl (Nat.le_of_ble_eq_true rfl) [(0, .ref h0), (1, .int a1), (2, .int a2)] rfl ?_
  intro p e s m below meth c A H locs ls hx hb hr hml hts hown hlocks hin hK hP hD hA hS hl
  have hown : s.vm.findClass RX0 = some m.cls := hown
  have k1 := hts (.fieldLink RX0 11 "LidCourt$Bench" "frees" "[Z") (by decide +kernel)
  have k2 : ∀ w ∈ wsX00, w ∈ wsX0_freesByStrike := fun _ h => List.mem_cons_of_mem _ (List.mem_append_right _ h)
  have J2_113 : ∀ (n : Nat) (y2_0 : Int32), True → rg 0 10 y2_0 → 10 < y2_0.toInt + (n : Int) → ∀ (H : Heap) (locs : List Loc) (ls : Array Slot), va_P D vwCl [(h0, .inr (0, [.ref h0_frees, .ref h0_low, .ref h0_high, .ref h0_letGoWeight, .ref h0_holdWeight, .ref h0_heardWith])), (aZ ca h0_frees 1024 F_h0_frees)] H → va_D A [(h0, .inr (0, [.ref h0_frees, .ref h0_low, .ref h0_high, .ref h0_letGoWeight, .ref h0_holdWeight, .ref h0_heardWith])), (aZ ca h0_frees 1024 F_h0_frees)] → va_S A s.heap H locs → lv_has ls 4 [(0, .ref h0), (1, .int a1), (2, .int a2), (3, .int y2_0)] → W p l e ({ frames := 0, cells := 0, slots := 0, locals := 0 } : Room) s m ([.ref h0, .int a1, .int a2] : List Value).toArray below meth c H locs 0 0 (MQ below ((oQi D (fun (r : Int32) (u : Unit) => (rg 0 1 r)) (fun (u : Unit) => [(h0, .inr (0, [.ref h0_frees, .ref h0_low, .ref h0_high, .ref h0_letGoWeight, .ref h0_holdWeight, .ref h0_heardWith])), (aZ ca h0_frees 1024 F_h0_frees)])) A) ([.ref h0, .int a1, .int a2] : List Value).toArray s 0 0 A) (F0 m 2 ls []) := by
    intro n
    induction n with
    | zero => intro y2_0 _ hy2_0 hn; exact absurd hn (by have q9 := hy2_0.2; omega)
    | succ n ih =>
      intro y2_0 _ hy2_0 hn H locs ls hP hD hS hl
      have J32_145 : ∀ (_ : Unit), rg 0 9 y2_0 → ∀ (H : Heap) (locs : List Loc) (ls : Array Slot), va_P D vwCl [(h0, .inr (0, [.ref h0_frees, .ref h0_low, .ref h0_high, .ref h0_letGoWeight, .ref h0_holdWeight, .ref h0_heardWith])), (aZ ca h0_frees 1024 F_h0_frees)] H → va_D A [(h0, .inr (0, [.ref h0_frees, .ref h0_low, .ref h0_high, .ref h0_letGoWeight, .ref h0_holdWeight, .ref h0_heardWith])), (aZ ca h0_frees 1024 F_h0_frees)] → va_S A s.heap H locs → lv_has ls 4 [(0, .ref h0), (1, .int a1), (2, .int a2), (3, .int y2_0)] → W p l e ({ frames := 0, cells := 0, slots := 0, locals := 0 } : Room) s m ([.ref h0, .int a1, .int a2] : List Value).toArray below meth c H locs 0 0 (MQ below ((oQi D (fun (r : Int32) (u : Unit) => (rg 0 1 r)) (fun (u : Unit) => [(h0, .inr (0, [.ref h0_frees, .ref h0_low, .ref h0_high, .ref h0_letGoWeight, .ref h0_holdWeight, .ref h0_heardWith])), (aZ ca h0_frees 1024 F_h0_frees)])) A) ([.ref h0, .int a1, .int a2] : List Value).toArray s 0 0 A) (F0 m 32 ls []) := by
        intro _ t32_y2_0 H locs ls hP hD hS hl
        obtain ⟨x_146, ex_146⟩ : ∃ y : Int32, y = y2_0 + 1 := ⟨_, rfl⟩
        have h_147 : rg 1 10 x_146 := by rw [ex_146]; exact rg_add t32_y2_0 (⟨by decide, by decide⟩ : rg 1 1 (1 : Int32)) (by decide) (by decide) (by decide) (by decide)
        have l_148 : lq x_146.toInt (y2_0.toInt + 1) := lqm (by rw [ex_146]; have q := tadd t32_y2_0 (⟨by decide, by decide⟩ : rg 1 1 (1 : Int32)) (by decide) (by decide); have r1 := lqe (lqm (by decide) : lq (1 : Int32).toInt 1); omega)
        refine lv_iinc (v := x_146) (lv' := [(3, .int x_146), (0, .ref h0), (1, .int a1), (2, .int a2)]) hx hb dX0_freesByStrike_32 hl (k := 3) rfl (by rw [ex_146]; rfl) (by decide) rfl (fun ls hl => ?_)
        refine lv_goto (tgt := 2) hx hb dX0_freesByStrike_35 (by decide) ?_
        exact ih x_146 trivial (rgw (lo := 0) (hi := 10) h_147 (by decide) (by decide)) (by have q0 := lqe l_148; omega) H locs ls (oPsub hP [0, 1] rfl) (hD.sub [0, 1] (by decide) rfl) hS (lv_sub hl [1, 2, 3, 0] rfl)
      refine lv_iload_n hx hb dX0_freesByStrike_2 rfl (lv_at hl 3 rfl) ?_
      refine lv_bipush (v := 10) hx hb dX0_freesByStrike_3 (by decide) ?_
      refine lv_icmp_ge (tgt := 38) hx hb dX0_freesByStrike_5 (by decide) (fun c_149 => ?_) (fun c_149 => ?_)
      · skip
        have o_150 : rl 0 10 y2_0 := rl_le c_149
        have h_151 : rg 10 10 y2_0 := rl_y o_150 (⟨by decide, by decide⟩ : rg 10 10 (10 : Int32)) hy2_0 (by decide) (by decide)
        refine lv_iload_n hx hb dX0_freesByStrike_38 rfl (lv_at hl 2 rfl) ?_
        refine lv_if_ne (tgt := 46) hx hb dX0_freesByStrike_39 (by decide) (fun c_152 => ?_) (fun c_152 => ?_)
        · skip
          have h_153 : rg 1 1 a2 := cl_nlo c_152 i_a2 (show (0 : Int32).toInt = 0 by decide) (by decide) (by decide)
          refine lv_iconst (v := 0) hx hb dX0_freesByStrike_46 (by decide) ?_
          exact oE_i hx hb hr (by decide) hlocks hP hD hS () [0, 1] rfl (by decide) (⟨by decide, by decide⟩ : rg 0 1 (0 : Int32)) (Nat.le_of_ble_eq_true rfl) (Nat.le_of_ble_eq_true rfl) dX0_freesByStrike_47
        · skip
          have o_154 : rl 0 a2 0 := rl_eq c_152
          have h_155 : rg 0 0 a2 := rl_x o_154 i_a2 (⟨by decide, by decide⟩ : rg 0 0 (0 : Int32)) (by decide) (by decide)
          have o_156 : rl 0 0 a2 := rl_eq c_152.symm
          refine lv_iconst (v := 1) hx hb dX0_freesByStrike_42 (by decide) ?_
          refine lv_goto (tgt := 47) hx hb dX0_freesByStrike_43 (by decide) ?_
          exact oE_i hx hb hr (by decide) hlocks hP hD hS () [0, 1] rfl (by decide) (⟨by decide, by decide⟩ : rg 0 1 (1 : Int32)) (Nat.le_of_ble_eq_true rfl) (Nat.le_of_ble_eq_true rfl) dX0_freesByStrike_47
      · skip
        have o_157 : rl 1 y2_0 10 := rl_nle c_149
        have h_158 : rg 0 9 y2_0 := rl_x o_157 hy2_0 (⟨by decide, by decide⟩ : rg 10 10 (10 : Int32)) (by decide) (by decide)
        refine lv_iload_n hx hb dX0_freesByStrike_8 rfl (lv_at hl 1 rfl) ?_
        refine lv_iload_n hx hb dX0_freesByStrike_9 rfl (lv_at hl 3 rfl) ?_
        refine lv_ishr hx hb dX0_freesByStrike_10 ?_
        refine lv_topi (fun x_159 ex_159 => ?_)
        refine lv_iconst (v := 1) hx hb dX0_freesByStrike_11 (by decide) ?_
        refine lv_iand hx hb dX0_freesByStrike_12 ?_
        refine lv_topi (fun x_160 ex_160 => ?_)
        have h_161 : rg 0 1 x_160 := by rw [ex_160]; exact rg_and' (⟨by decide, by decide⟩ : rg 1 1 (1 : Int32)) (by decide) (by decide) (by decide)
        refine lv_if_eq (tgt := 32) hx hb dX0_freesByStrike_13 (by decide) (fun c_162 => ?_) (fun c_162 => ?_)
        · skip
          have o_163 : rl 0 x_160 0 := rl_eq c_162
          have h_164 : rg 0 0 x_160 := rl_x o_163 h_161 (⟨by decide, by decide⟩ : rg 0 0 (0 : Int32)) (by decide) (by decide)
          have o_165 : rl 0 0 x_160 := rl_eq c_162.symm
          exact J32_145 () h_158 H locs ls (oPsub hP [0, 1] rfl) (hD.sub [0, 1] (by decide) rfl) hS (lv_sub hl [0, 1, 2, 3] rfl)
        · skip
          have h_166 : rg 1 1 x_160 := cl_nlo c_162 h_161 (show (0 : Int32).toInt = 0 by decide) (by decide) (by decide)
          refine lv_aload_n hx hb dX0_freesByStrike_16 rfl (lv_at hl 0 rfl) ?_
          refine va_get (D := D) (ci := 0) (v := .ref h0_frees) (C := RX0) (T := TX0) (N := 6) hx hb hts k2 hown hK.1 hP 0 rfl rfl 0 (by decide) k1 (fun _ h9 => h9) rfl dX0_freesByStrike_17 ?_
          refine lv_iload_n hx hb dX0_freesByStrike_20 rfl (lv_at hl 1 rfl) ?_
          refine lv_iconst (v := 1) hx hb dX0_freesByStrike_21 (by decide) ?_
          refine lv_iload_n hx hb dX0_freesByStrike_22 rfl (lv_at hl 3 rfl) ?_
          refine lv_ishl hx hb dX0_freesByStrike_23 ?_
          refine lv_topi (fun x_167 ex_167 => ?_)
          have h_168 : rg 1 512 x_167 := by rw [ex_167]; exact rg_shl1 h_158 (by decide) (by decide) (by decide) (by decide)
          refine lv_ixor hx hb dX0_freesByStrike_24 ?_
          refine lv_topi (fun x_169 ex_169 => ?_)
          have h_170 : rg 0 1023 x_169 := by rw [ex_169]; exact rg_xor 10 i_a1 h_168 (by decide) (by decide) (by decide) (by decide) (by decide) (by decide) (by decide)
          refine va_zald hx hb hK.1 hP 1 2 rfl rfl (rg_in h_170 (by decide) (by decide)) dX0_freesByStrike_25 ?_
          refine lv_topi (fun x_171 ex_171 => ?_)
          refine lv_iload_n hx hb dX0_freesByStrike_26 rfl (lv_at hl 2 rfl) ?_
          refine lv_icmp_ne (tgt := 32) hx hb dX0_freesByStrike_27 (by decide) (fun c_172 => ?_) (fun c_172 => ?_)
          · skip
            exact J32_145 () h_158 H locs ls (oPsub hP [0, 1] rfl) (hD.sub [0, 1] (by decide) rfl) hS (lv_sub hl [0, 1, 2, 3] rfl)
          · skip
            have o_173 : rl 0 x_171 a2 := rl_eq c_172
            have h_174 : rg (-2147483648) 1 x_171 := rl_x o_173 (rga x_171) i_a2 (by decide) (by decide)
            have o_175 : rl 0 a2 x_171 := rl_eq c_172.symm
            have h_176 : rg 0 1 x_171 := rl_y o_175 i_a2 h_174 (by decide) (by decide)
            refine lv_iload_n hx hb dX0_freesByStrike_30 rfl (lv_at hl 2 rfl) ?_
            exact oE_i hx hb hr (nar_z i_a2) hlocks hP hD hS () [0, 1] rfl (by decide) i_a2 (Nat.le_of_ble_eq_true rfl) (Nat.le_of_ble_eq_true rfl) dX0_freesByStrike_31
  refine lv_iconst (v := 0) hx hb dX0_freesByStrike_0 (by decide) ?_
  refine lv_istore_n (lv' := [(3, .int 0), (0, .ref h0), (1, .int a1), (2, .int a2)]) hx hb dX0_freesByStrike_1 rfl hl (by decide) rfl (fun ls hl => ?_)
  exact J2_113 11 0 trivial (⟨by decide, by decide⟩ : rg 0 10 (0 : Int32)) (by have q0 := (⟨by decide, by decide⟩ : rg 0 0 (0 : Int32)).1; omega) H locs ls (oPsub hP [0, 1] rfl) (hD.sub [0, 1] (by decide) rfl) hS (lv_sub hl [1, 2, 3, 0] rfl)
theorem dX0_judgeStrikes_0 : decode cX0_judgeStrikes 0 = .ok (.iload_n 1, 1) := by decide +kernel
theorem dX0_judgeStrikes_1 : decode cX0_judgeStrikes 1 = .ok (.invokestatic 65, 3) := by decide +kernel
theorem dX0_judgeStrikes_4 : decode cX0_judgeStrikes 4 = .ok (.istore 4, 2) := by decide +kernel
theorem dX0_judgeStrikes_6 : decode cX0_judgeStrikes 6 = .ok (.iconst 1, 1) := by decide +kernel
theorem dX0_judgeStrikes_7 : decode cX0_judgeStrikes 7 = .ok (.istore 5, 2) := by decide +kernel
theorem dX0_judgeStrikes_9 : decode cX0_judgeStrikes 9 = .ok (.iload 5, 2) := by decide +kernel
theorem dX0_judgeStrikes_11 : decode cX0_judgeStrikes 11 = .ok (.iload_n 1, 1) := by decide +kernel
theorem dX0_judgeStrikes_12 : decode cX0_judgeStrikes 12 = .ok (.if_icmp .gt 87, 3) := by decide +kernel
theorem dX0_judgeStrikes_15 : decode cX0_judgeStrikes 15 = .ok (.iload 5, 2) := by decide +kernel
theorem dX0_judgeStrikes_17 : decode cX0_judgeStrikes 17 = .ok (.invokestatic 65, 3) := by decide +kernel
theorem dX0_judgeStrikes_20 : decode cX0_judgeStrikes 20 = .ok (.istore 6, 2) := by decide +kernel
theorem dX0_judgeStrikes_22 : decode cX0_judgeStrikes 22 = .ok (.iload 5, 2) := by decide +kernel
theorem dX0_judgeStrikes_24 : decode cX0_judgeStrikes 24 = .ok (.iload_n 1, 1) := by decide +kernel
theorem dX0_judgeStrikes_25 : decode cX0_judgeStrikes 25 = .ok (.iconst (-1), 1) := by decide +kernel
theorem dX0_judgeStrikes_26 : decode cX0_judgeStrikes 26 = .ok (.ixor, 1) := by decide +kernel
theorem dX0_judgeStrikes_27 : decode cX0_judgeStrikes 27 = .ok (.iand, 1) := by decide +kernel
theorem dX0_judgeStrikes_28 : decode cX0_judgeStrikes 28 = .ok (.ifCond .ne 65, 3) := by decide +kernel
theorem dX0_judgeStrikes_31 : decode cX0_judgeStrikes 31 = .ok (.iload 6, 2) := by decide +kernel
theorem dX0_judgeStrikes_33 : decode cX0_judgeStrikes 33 = .ok (.iload_n 2, 1) := by decide +kernel
theorem dX0_judgeStrikes_34 : decode cX0_judgeStrikes 34 = .ok (.if_icmp .lt 59, 3) := by decide +kernel
theorem dX0_judgeStrikes_37 : decode cX0_judgeStrikes 37 = .ok (.iload 4, 2) := by decide +kernel
theorem dX0_judgeStrikes_39 : decode cX0_judgeStrikes 39 = .ok (.iload 6, 2) := by decide +kernel
theorem dX0_judgeStrikes_41 : decode cX0_judgeStrikes 41 = .ok (.isub, 1) := by decide +kernel
theorem dX0_judgeStrikes_42 : decode cX0_judgeStrikes 42 = .ok (.iconst 2, 1) := by decide +kernel
theorem dX0_judgeStrikes_43 : decode cX0_judgeStrikes 43 = .ok (.irem, 1) := by decide +kernel
theorem dX0_judgeStrikes_44 : decode cX0_judgeStrikes 44 = .ok (.ifCond .ne 7, 3) := by decide +kernel
theorem dX0_judgeStrikes_47 : decode cX0_judgeStrikes 47 = .ok (.iconst 1, 1) := by decide +kernel
theorem dX0_judgeStrikes_48 : decode cX0_judgeStrikes 48 = .ok (.goto 4, 3) := by decide +kernel
theorem dX0_judgeStrikes_51 : decode cX0_judgeStrikes 51 = .ok (.iconst 0, 1) := by decide +kernel
theorem dX0_judgeStrikes_52 : decode cX0_judgeStrikes 52 = .ok (.istore 7, 2) := by decide +kernel
theorem dX0_judgeStrikes_54 : decode cX0_judgeStrikes 54 = .ok (.aload_n 0, 1) := by decide +kernel
theorem dX0_judgeStrikes_55 : decode cX0_judgeStrikes 55 = .ok (.getfield 11, 3) := by decide +kernel
theorem dX0_judgeStrikes_58 : decode cX0_judgeStrikes 58 = .ok (.iload 5, 2) := by decide +kernel
theorem dX0_judgeStrikes_60 : decode cX0_judgeStrikes 60 = .ok (.iload 6, 2) := by decide +kernel
theorem dX0_judgeStrikes_62 : decode cX0_judgeStrikes 62 = .ok (.iload_n 2, 1) := by decide +kernel
theorem dX0_judgeStrikes_63 : decode cX0_judgeStrikes 63 = .ok (.if_icmp .ne 21, 3) := by decide +kernel
theorem dX0_judgeStrikes_66 : decode cX0_judgeStrikes 66 = .ok (.aload_n 0, 1) := by decide +kernel
theorem dX0_judgeStrikes_67 : decode cX0_judgeStrikes 67 = .ok (.iload 5, 2) := by decide +kernel
theorem dX0_judgeStrikes_69 : decode cX0_judgeStrikes 69 = .ok (.invokevirtual 59, 3) := by decide +kernel
theorem dX0_judgeStrikes_72 : decode cX0_judgeStrikes 72 = .ok (.iload_n 3, 1) := by decide +kernel
theorem dX0_judgeStrikes_73 : decode cX0_judgeStrikes 73 = .ok (.if_icmp .gt 7, 3) := by decide +kernel
theorem dX0_judgeStrikes_76 : decode cX0_judgeStrikes 76 = .ok (.iconst 1, 1) := by decide +kernel
theorem dX0_judgeStrikes_77 : decode cX0_judgeStrikes 77 = .ok (.goto 15, 3) := by decide +kernel
theorem dX0_judgeStrikes_80 : decode cX0_judgeStrikes 80 = .ok (.iconst 0, 1) := by decide +kernel
theorem dX0_judgeStrikes_81 : decode cX0_judgeStrikes 81 = .ok (.goto 11, 3) := by decide +kernel
theorem dX0_judgeStrikes_84 : decode cX0_judgeStrikes 84 = .ok (.aload_n 0, 1) := by decide +kernel
theorem dX0_judgeStrikes_85 : decode cX0_judgeStrikes 85 = .ok (.iload 5, 2) := by decide +kernel
theorem dX0_judgeStrikes_87 : decode cX0_judgeStrikes 87 = .ok (.iload 7, 2) := by decide +kernel
theorem dX0_judgeStrikes_89 : decode cX0_judgeStrikes 89 = .ok (.invokevirtual 86, 3) := by decide +kernel
theorem dX0_judgeStrikes_92 : decode cX0_judgeStrikes 92 = .ok (.bastore, 1) := by decide +kernel
theorem dX0_judgeStrikes_93 : decode cX0_judgeStrikes 93 = .ok (.iinc 5 1, 3) := by decide +kernel
theorem dX0_judgeStrikes_96 : decode cX0_judgeStrikes 96 = .ok (.goto (-87), 3) := by decide +kernel
theorem dX0_judgeStrikes_99 : decode cX0_judgeStrikes 99 = .ok (.return_, 1) := by decide +kernel
set_option maxRecDepth 20000 in
theorem ggX0_judgeStrikes_J6_bitCount_0f7a4 : GoodIn wsX0_judgeStrikes wsJ6_bitCount_0f7a4 := goodIn_r _ [5, 6, 7, 8] rfl (by decide +kernel)
set_option maxRecDepth 20000 in
theorem gX0_judgeStrikes_J6_bitCount_0f7a4 : GoodIn wsX0_judgeStrikes (va_wsS RX0 65 yJ6_bitCount_0f7a4 wsJ6_bitCount_0f7a4) := goodIn_app (goodIn_of _ (by decide +kernel)) ggX0_judgeStrikes_J6_bitCount_0f7a4
set_option maxRecDepth 20000 in
theorem ggX0_judgeStrikes_X0_freesByStrike : GoodIn wsX0_judgeStrikes wsX0_freesByStrike := goodIn_r _ [19, 1, 20, 21, 22, 23, 24, 25] rfl (by decide +kernel)
set_option maxRecDepth 20000 in
theorem gX0_judgeStrikes_X0_freesByStrike : GoodIn wsX0_judgeStrikes (wsV RX0 86 RX0 yX0_freesByStrike wsX0_freesByStrike) := goodIn_app (goodIn_of _ (by decide +kernel)) ggX0_judgeStrikes_X0_freesByStrike
set_option maxRecDepth 20000 in
theorem ggX0_judgeStrikes_X0_apart : GoodIn wsX0_judgeStrikes wsX0_apart := goodIn_r _ [13, 14, 15, 20, 21, 22, 23, 24, 25] rfl (by decide +kernel)
set_option maxRecDepth 20000 in
theorem gX0_judgeStrikes_X0_apart : GoodIn wsX0_judgeStrikes (wsV RX0 59 RX0 yX0_apart wsX0_apart) := goodIn_app (goodIn_of _ (by decide +kernel)) ggX0_judgeStrikes_X0_apart
set_option maxHeartbeats 4000000 in
set_option maxRecDepth 100000 in
theorem s_X0_judgeStrikes (l : Launch) (D : va_G) (ca : Nat → ClassId) (sz : Nat) (h0 : Nat) (a1 : Int32) (a2 : Int32) (a3 : Int32) (h0_frees : Nat) (h0_low : Nat) (h0_high : Nat) (h0_letGoWeight : Nat) (h0_holdWeight : Nat) (h0_heardWith : Nat) (F_h0_frees : Nat → Int32) (F_h0_high : Nat → Int32) (F_h0_low : Nat → Int32) (i_a1 : rg 0 1023 a1) : oMet l yX0_judgeStrikes wsX0_judgeStrikes ({ frames := 1, cells := 0, slots := 0, locals := 23 } : Room) [.ref h0, .int a1, .int a2, .int a3] D ca sz [(h0, .inr (0, [.ref h0_frees, .ref h0_low, .ref h0_high, .ref h0_letGoWeight, .ref h0_holdWeight, .ref h0_heardWith])), (aZ ca h0_frees 1024 F_h0_frees), (aI ca h0_high 1024 F_h0_high), (aI ca h0_low 1024 F_h0_low)] (oQv D (fun (u : (Nat → Int32)) => True) (fun (u : (Nat → Int32)) => [(h0, .inr (0, [.ref h0_frees, .ref h0_low, .ref h0_high, .ref h0_letGoWeight, .ref h0_holdWeight, .ref h0_heardWith])), (aZ ca h0_frees 1024 u), (aI ca h0_high 1024 F_h0_high), (aI ca h0_low 1024 F_h0_low)])) 0 0 := by
  refine oM (cc := cX0_judgeStrikes) (maxL := 8) (ret := none) (by decide) rfl (Nat.le_of_ble_eq_true rfl) [(0, .ref h0), (1, .int a1), (2, .int a2), (3, .int a3)] rfl ?_
  intro p e s m below meth c A H locs ls hx hb hr hml hts hown hlocks hin hK hP hD hA hS hl
  have hown : s.vm.findClass RX0 = some m.cls := hown
  have k1 := hts (.fieldLink RX0 11 "LidCourt$Bench" "frees" "[Z") (by decide +kernel)
  have k2 : ∀ w ∈ wsX00, w ∈ wsX0_judgeStrikes := fun _ h => List.mem_cons_of_mem _ (List.mem_append_right _ h)
  have J9_245 : ∀ (n : Nat) (y9_0 : Int32) (y9_1 : Int32) (f9_2 : Nat → Int32), True → rg 0 63 y9_0 → rg 1 1024 y9_1 → 1024 < y9_1.toInt + (n : Int) → ∀ (H : Heap) (locs : List Loc) (ls : Array Slot), va_P D vwCl [(h0, .inr (0, [.ref h0_frees, .ref h0_low, .ref h0_high, .ref h0_letGoWeight, .ref h0_holdWeight, .ref h0_heardWith])), (aZ ca h0_frees 1024 f9_2), (aI ca h0_high 1024 F_h0_high), (aI ca h0_low 1024 F_h0_low)] H → va_D A [(h0, .inr (0, [.ref h0_frees, .ref h0_low, .ref h0_high, .ref h0_letGoWeight, .ref h0_holdWeight, .ref h0_heardWith])), (aZ ca h0_frees 1024 f9_2), (aI ca h0_high 1024 F_h0_high), (aI ca h0_low 1024 F_h0_low)] → va_S A s.heap H locs → lv_has ls 8 [(0, .ref h0), (1, .int a1), (2, .int a2), (3, .int a3), (4, .int y9_0), (5, .int y9_1)] → W p l e ({ frames := 1, cells := 0, slots := 0, locals := 23 } : Room) s m ([.ref h0, .int a1, .int a2, .int a3] : List Value).toArray below meth c H locs 0 0 (MQ below ((oQv D (fun (u : (Nat → Int32)) => True) (fun (u : (Nat → Int32)) => [(h0, .inr (0, [.ref h0_frees, .ref h0_low, .ref h0_high, .ref h0_letGoWeight, .ref h0_holdWeight, .ref h0_heardWith])), (aZ ca h0_frees 1024 u), (aI ca h0_high 1024 F_h0_high), (aI ca h0_low 1024 F_h0_low)])) A) ([.ref h0, .int a1, .int a2, .int a3] : List Value).toArray s 0 0 A) (F0 m 9 ls []) := by
    intro n
    induction n with
    | zero => intro y9_0 y9_1 f9_2 _ hy9_0 hy9_1 hn; exact absurd hn (by have q9 := hy9_1.2; omega)
    | succ n ih =>
      intro y9_0 y9_1 f9_2 _ hy9_0 hy9_1 hn H locs ls hP hD hS hl
      have J93_295 : ∀ (f93_0 : Nat → Int32), rg 1 1023 a1 → rg 1 1023 y9_1 → rl 0 y9_1 a1 → ∀ (H : Heap) (locs : List Loc) (ls : Array Slot), va_P D vwCl [(h0, .inr (0, [.ref h0_frees, .ref h0_low, .ref h0_high, .ref h0_letGoWeight, .ref h0_holdWeight, .ref h0_heardWith])), (aZ ca h0_frees 1024 f93_0), (aI ca h0_high 1024 F_h0_high), (aI ca h0_low 1024 F_h0_low)] H → va_D A [(h0, .inr (0, [.ref h0_frees, .ref h0_low, .ref h0_high, .ref h0_letGoWeight, .ref h0_holdWeight, .ref h0_heardWith])), (aZ ca h0_frees 1024 f93_0), (aI ca h0_high 1024 F_h0_high), (aI ca h0_low 1024 F_h0_low)] → va_S A s.heap H locs → lv_has ls 8 [(0, .ref h0), (1, .int a1), (2, .int a2), (3, .int a3), (4, .int y9_0), (5, .int y9_1)] → W p l e ({ frames := 1, cells := 0, slots := 0, locals := 23 } : Room) s m ([.ref h0, .int a1, .int a2, .int a3] : List Value).toArray below meth c H locs 0 0 (MQ below ((oQv D (fun (u : (Nat → Int32)) => True) (fun (u : (Nat → Int32)) => [(h0, .inr (0, [.ref h0_frees, .ref h0_low, .ref h0_high, .ref h0_letGoWeight, .ref h0_holdWeight, .ref h0_heardWith])), (aZ ca h0_frees 1024 u), (aI ca h0_high 1024 F_h0_high), (aI ca h0_low 1024 F_h0_low)])) A) ([.ref h0, .int a1, .int a2, .int a3] : List Value).toArray s 0 0 A) (F0 m 93 ls []) := by
        intro f93_0 t93_a1 t93_y9_1 o93_y9_1_a1 H locs ls hP hD hS hl
        obtain ⟨x_296, ex_296⟩ : ∃ y : Int32, y = y9_1 + 1 := ⟨_, rfl⟩
        have h_297 : rg 2 1024 x_296 := by rw [ex_296]; exact rg_add t93_y9_1 (⟨by decide, by decide⟩ : rg 1 1 (1 : Int32)) (by decide) (by decide) (by decide) (by decide)
        have l_298 : lq x_296.toInt (y9_1.toInt + 1) := lqm (by rw [ex_296]; have q := tadd t93_y9_1 (⟨by decide, by decide⟩ : rg 1 1 (1 : Int32)) (by decide) (by decide); have r1 := lqe (lqm (by decide) : lq (1 : Int32).toInt 1); omega)
        refine lv_iinc (v := x_296) (lv' := [(5, .int x_296), (0, .ref h0), (1, .int a1), (2, .int a2), (3, .int a3), (4, .int y9_0)]) hx hb dX0_judgeStrikes_93 hl (k := 5) rfl (by rw [ex_296]; rfl) (by decide) rfl (fun ls hl => ?_)
        refine lv_goto (tgt := 9) hx hb dX0_judgeStrikes_96 (by decide) ?_
        exact ih y9_0 x_296 f93_0 trivial hy9_0 (rgw (lo := 1) (hi := 1024) h_297 (by decide) (by decide)) (by have q0 := lqe l_298; omega) H locs ls (oPsub hP [0, 1, 2, 3] rfl) (hD.sub [0, 1, 2, 3] (by decide) rfl) hS (lv_sub hl [1, 2, 3, 4, 5, 0] rfl)
      have J92_299 : ∀ (y92_0 : Int32), rg 0 1 y92_0 → rg 1 1023 a1 → rg (-2147483648) 63 a2 → rg 1 1023 y9_1 → rl 0 y9_1 a1 → ∀ (H : Heap) (locs : List Loc) (ls : Array Slot), va_P D vwCl [(h0, .inr (0, [.ref h0_frees, .ref h0_low, .ref h0_high, .ref h0_letGoWeight, .ref h0_holdWeight, .ref h0_heardWith])), (aZ ca h0_frees 1024 f9_2), (aI ca h0_high 1024 F_h0_high), (aI ca h0_low 1024 F_h0_low)] H → va_D A [(h0, .inr (0, [.ref h0_frees, .ref h0_low, .ref h0_high, .ref h0_letGoWeight, .ref h0_holdWeight, .ref h0_heardWith])), (aZ ca h0_frees 1024 f9_2), (aI ca h0_high 1024 F_h0_high), (aI ca h0_low 1024 F_h0_low)] → va_S A s.heap H locs → lv_has ls 8 [(0, .ref h0), (1, .int a1), (2, .int a2), (3, .int a3), (4, .int y9_0), (5, .int y9_1)] → W p l e ({ frames := 1, cells := 0, slots := 0, locals := 23 } : Room) s m ([.ref h0, .int a1, .int a2, .int a3] : List Value).toArray below meth c H locs 0 0 (MQ below ((oQv D (fun (u : (Nat → Int32)) => True) (fun (u : (Nat → Int32)) => [(h0, .inr (0, [.ref h0_frees, .ref h0_low, .ref h0_high, .ref h0_letGoWeight, .ref h0_holdWeight, .ref h0_heardWith])), (aZ ca h0_frees 1024 u), (aI ca h0_high 1024 F_h0_high), (aI ca h0_low 1024 F_h0_low)])) A) ([.ref h0, .int a1, .int a2, .int a3] : List Value).toArray s 0 0 A) (F0 m 92 ls [.int y92_0, .int y9_1, .ref h0_frees]) := by
        intro y92_0 hy92_0 t92_a1 t92_a2 t92_y9_1 o92_y9_1_a1 H locs ls hP hD hS hl
        refine va_zast hx hb hK.1 hP hD hS 1 2 rfl rfl (rg_in t92_y9_1 (by decide) (by decide)) dX0_judgeStrikes_92 (fun H locs hP hD hS => ?_)
        obtain ⟨g_300, eg_300⟩ : ∃ y : Nat → Int32, y = upd f9_2 (y9_1 : Int32).toNatClampNeg (vp_nar .boolean y92_0) := ⟨_, rfl⟩
        rw [← eg_300] at hP hD
        have hP : va_P D vwCl [(h0, .inr (0, [.ref h0_frees, .ref h0_low, .ref h0_high, .ref h0_letGoWeight, .ref h0_holdWeight, .ref h0_heardWith])), (aZ ca h0_frees 1024 g_300), (aI ca h0_high 1024 F_h0_high), (aI ca h0_low 1024 F_h0_low)] H := hP
        have hD : va_D A [(h0, .inr (0, [.ref h0_frees, .ref h0_low, .ref h0_high, .ref h0_letGoWeight, .ref h0_holdWeight, .ref h0_heardWith])), (aZ ca h0_frees 1024 g_300), (aI ca h0_high 1024 F_h0_high), (aI ca h0_low 1024 F_h0_low)] := hD
        exact J93_295 g_300 t92_a1 t92_y9_1 o92_y9_1_a1 H locs ls (oPsub hP [0, 1, 2, 3] rfl) (hD.sub [0, 1, 2, 3] (by decide) rfl) hS (lv_sub hl [0, 1, 2, 3, 4, 5] rfl)
      have J52_301 : ∀ (y52_0 : Int32) (y52_1 : Int32), rg 0 63 y52_0 → rl 0 a2 y52_0 → rg 0 1 y52_1 → rg 1 1023 a1 → rg (-2147483648) 63 a2 → rg 1 1023 y9_1 → rl 0 y9_1 a1 → ∀ (H : Heap) (locs : List Loc) (ls : Array Slot), va_P D vwCl [(h0, .inr (0, [.ref h0_frees, .ref h0_low, .ref h0_high, .ref h0_letGoWeight, .ref h0_holdWeight, .ref h0_heardWith])), (aZ ca h0_frees 1024 f9_2), (aI ca h0_high 1024 F_h0_high), (aI ca h0_low 1024 F_h0_low)] H → va_D A [(h0, .inr (0, [.ref h0_frees, .ref h0_low, .ref h0_high, .ref h0_letGoWeight, .ref h0_holdWeight, .ref h0_heardWith])), (aZ ca h0_frees 1024 f9_2), (aI ca h0_high 1024 F_h0_high), (aI ca h0_low 1024 F_h0_low)] → va_S A s.heap H locs → lv_has ls 8 [(0, .ref h0), (1, .int a1), (2, .int a2), (3, .int a3), (4, .int y9_0), (5, .int y9_1), (6, .int y52_0)] → W p l e ({ frames := 1, cells := 0, slots := 0, locals := 23 } : Room) s m ([.ref h0, .int a1, .int a2, .int a3] : List Value).toArray below meth c H locs 0 0 (MQ below ((oQv D (fun (u : (Nat → Int32)) => True) (fun (u : (Nat → Int32)) => [(h0, .inr (0, [.ref h0_frees, .ref h0_low, .ref h0_high, .ref h0_letGoWeight, .ref h0_holdWeight, .ref h0_heardWith])), (aZ ca h0_frees 1024 u), (aI ca h0_high 1024 F_h0_high), (aI ca h0_low 1024 F_h0_low)])) A) ([.ref h0, .int a1, .int a2, .int a3] : List Value).toArray s 0 0 A) (F0 m 52 ls [.int y52_1]) := by
        intro y52_0 y52_1 hy52_0 py52_0_a2 hy52_1 t52_a1 t52_a2 t52_y9_1 o52_y9_1_a1 H locs ls hP hD hS hl
        refine lv_istore (lv' := [(7, .int y52_1), (0, .ref h0), (1, .int a1), (2, .int a2), (3, .int a3), (4, .int y9_0), (5, .int y9_1), (6, .int y52_0)]) hx hb dX0_judgeStrikes_52 hl (by decide) rfl (fun ls hl => ?_)
        refine lv_aload_n hx hb dX0_judgeStrikes_54 rfl (lv_at hl 1 rfl) ?_
        refine va_get (D := D) (ci := 0) (v := .ref h0_frees) (C := RX0) (T := TX0) (N := 6) hx hb hts k2 hown hK.1 hP 0 rfl rfl 0 (by decide) k1 (fun _ h9 => h9) rfl dX0_judgeStrikes_55 ?_
        refine lv_iload hx hb dX0_judgeStrikes_58 (lv_at hl 6 rfl) ?_
        refine lv_iload hx hb dX0_judgeStrikes_60 (lv_at hl 7 rfl) ?_
        refine lv_iload_n hx hb dX0_judgeStrikes_62 rfl (lv_at hl 3 rfl) ?_
        refine lv_icmp_ne (tgt := 84) hx hb dX0_judgeStrikes_63 (by decide) (fun c_302 => ?_) (fun c_302 => ?_)
        · skip
          refine lv_aload_n hx hb dX0_judgeStrikes_84 rfl (lv_at hl 1 rfl) ?_
          refine lv_iload hx hb dX0_judgeStrikes_85 (lv_at hl 6 rfl) ?_
          refine lv_iload hx hb dX0_judgeStrikes_87 (lv_at hl 0 rfl) ?_
          refine oC_i (Wc := [(h0, .inr (0, [.ref h0_frees, .ref h0_low, .ref h0_high, .ref h0_letGoWeight, .ref h0_holdWeight, .ref h0_heardWith])), (aZ ca h0_frees 1024 f9_2)]) (Wr := [(aI ca h0_high 1024 F_h0_high), (aI ca h0_low 1024 F_h0_low)]) (va_runV (As := [.int y9_1, .int y52_1]) (rest := [.int y9_1, .ref h0_frees]) ⟨hx, hb, hml, hown, hts⟩ (s_X0_freesByStrike l D ca H.size h0 y9_1 y52_1 h0_frees h0_low h0_high h0_letGoWeight h0_holdWeight h0_heardWith f9_2 (rgw (lo := 0) (hi := 1023) t52_y9_1 (by decide) (by decide)) hy52_1) (cwV 2 hts gX0_judgeStrikes_X0_freesByStrike rfl rfl rfl (by decide +kernel) ⟨Nat.le_of_ble_eq_true rfl, Nat.le_of_ble_eq_true rfl⟩) (oPV (C := RX0) hK hP hD [0, 1] rfl (by decide) 0 rfl (ci := 0) rfl rfl) rfl rfl hl.1 rfl (lv_room (Nat.le_of_ble_eq_true rfl)) dX0_judgeStrikes_89 ⟨Nat.le_of_ble_eq_true rfl, Nat.le_of_ble_eq_true rfl⟩) hP hD hS hA [0, 1] [2, 3] rfl rfl (by decide) (by decide) (fun r_303 u H locs w_304 hP hD hS => ?_)
          obtain ⟨⟩ := u
          have hP : va_P D vwCl [(aI ca h0_high 1024 F_h0_high), (aI ca h0_low 1024 F_h0_low), (h0, .inr (0, [.ref h0_frees, .ref h0_low, .ref h0_high, .ref h0_letGoWeight, .ref h0_holdWeight, .ref h0_heardWith])), (aZ ca h0_frees 1024 f9_2)] H := hP
          have hD : va_D A [(aI ca h0_high 1024 F_h0_high), (aI ca h0_low 1024 F_h0_low), (h0, .inr (0, [.ref h0_frees, .ref h0_low, .ref h0_high, .ref h0_letGoWeight, .ref h0_holdWeight, .ref h0_heardWith])), (aZ ca h0_frees 1024 f9_2)] := hD
          try dsimp only at w_304
          have h_305 := w_304
          exact J92_299 r_303 h_305 t52_a1 t52_a2 t52_y9_1 o52_y9_1_a1 H locs ls (oPsub hP [2, 3, 0, 1] rfl) (hD.sub [2, 3, 0, 1] (by decide) rfl) hS (lv_sub hl [1, 2, 3, 4, 5, 6] rfl)
        · skip
          have o_306 : rl 0 y52_0 a2 := rl_eq c_302
          have h_307 : rg 0 63 a2 := rl_y o_306 hy52_0 t52_a2 (by decide) (by decide)
          have o_308 : rl 0 a2 y52_0 := rl_eq c_302.symm
          refine lv_aload_n hx hb dX0_judgeStrikes_66 rfl (lv_at hl 1 rfl) ?_
          refine lv_iload hx hb dX0_judgeStrikes_67 (lv_at hl 6 rfl) ?_
          refine oC_i (Wc := [(h0, .inr (0, [.ref h0_frees, .ref h0_low, .ref h0_high, .ref h0_letGoWeight, .ref h0_holdWeight, .ref h0_heardWith])), (aI ca h0_high 1024 F_h0_high), (aI ca h0_low 1024 F_h0_low)]) (Wr := [(aZ ca h0_frees 1024 f9_2)]) (va_runV (As := [.int y9_1]) (rest := [.int y9_1, .ref h0_frees]) ⟨hx, hb, hml, hown, hts⟩ (s_X0_apart l D ca H.size h0 y9_1 h0_frees h0_low h0_high h0_letGoWeight h0_holdWeight h0_heardWith F_h0_high F_h0_low (rgw (lo := 0) (hi := 1023) t52_y9_1 (by decide) (by decide))) (cwV 1 hts gX0_judgeStrikes_X0_apart rfl rfl rfl (by decide +kernel) ⟨Nat.le_of_ble_eq_true rfl, Nat.le_of_ble_eq_true rfl⟩) (oPV (C := RX0) hK hP hD [0, 2, 3] rfl (by decide) 0 rfl (ci := 0) rfl rfl) rfl rfl hl.1 rfl (lv_room (Nat.le_of_ble_eq_true rfl)) dX0_judgeStrikes_69 ⟨Nat.le_of_ble_eq_true rfl, Nat.le_of_ble_eq_true rfl⟩) hP hD hS hA [0, 2, 3] [1] rfl rfl (by decide) (by decide) (fun r_309 u H locs w_310 hP hD hS => ?_)
          obtain ⟨⟩ := u
          have hP : va_P D vwCl [(aZ ca h0_frees 1024 f9_2), (h0, .inr (0, [.ref h0_frees, .ref h0_low, .ref h0_high, .ref h0_letGoWeight, .ref h0_holdWeight, .ref h0_heardWith])), (aI ca h0_high 1024 F_h0_high), (aI ca h0_low 1024 F_h0_low)] H := hP
          have hD : va_D A [(aZ ca h0_frees 1024 f9_2), (h0, .inr (0, [.ref h0_frees, .ref h0_low, .ref h0_high, .ref h0_letGoWeight, .ref h0_holdWeight, .ref h0_heardWith])), (aI ca h0_high 1024 F_h0_high), (aI ca h0_low 1024 F_h0_low)] := hD
          try dsimp only at w_310
          refine lv_iload_n hx hb dX0_judgeStrikes_72 rfl (lv_at hl 4 rfl) ?_
          refine lv_icmp_gt (tgt := 80) hx hb dX0_judgeStrikes_73 (by decide) (fun c_311 => ?_) (fun c_311 => ?_)
          · skip
            have o_312 : rl 1 a3 r_309 := rl_lt c_311
            have h_313 : rg (-2147483648) 2147483646 a3 := rl_x o_312 (rga a3) (rga r_309) (by decide) (by decide)
            have h_314 : rg (-2147483647) 2147483647 r_309 := rl_y o_312 (rga a3) (rga r_309) (by decide) (by decide)
            refine lv_iconst (v := 0) hx hb dX0_judgeStrikes_80 (by decide) ?_
            refine lv_goto (tgt := 92) hx hb dX0_judgeStrikes_81 (by decide) ?_
            exact J92_299 0 (⟨by decide, by decide⟩ : rg 0 1 (0 : Int32)) t52_a1 (rgw (lo := (-2147483648)) (hi := 63) h_307 (by decide) (by decide)) t52_y9_1 o52_y9_1_a1 H locs ls (oPsub hP [1, 0, 2, 3] rfl) (hD.sub [1, 0, 2, 3] (by decide) rfl) hS (lv_sub hl [1, 2, 3, 4, 5, 6] rfl)
          · skip
            have o_315 : rl 0 r_309 a3 := rl_nlt c_311
            refine lv_iconst (v := 1) hx hb dX0_judgeStrikes_76 (by decide) ?_
            refine lv_goto (tgt := 92) hx hb dX0_judgeStrikes_77 (by decide) ?_
            exact J92_299 1 (⟨by decide, by decide⟩ : rg 0 1 (1 : Int32)) t52_a1 (rgw (lo := (-2147483648)) (hi := 63) h_307 (by decide) (by decide)) t52_y9_1 o52_y9_1_a1 H locs ls (oPsub hP [1, 0, 2, 3] rfl) (hD.sub [1, 0, 2, 3] (by decide) rfl) hS (lv_sub hl [1, 2, 3, 4, 5, 6] rfl)
      refine lv_iload hx hb dX0_judgeStrikes_9 (lv_at hl 5 rfl) ?_
      refine lv_iload_n hx hb dX0_judgeStrikes_11 rfl (lv_at hl 1 rfl) ?_
      refine lv_icmp_gt (tgt := 99) hx hb dX0_judgeStrikes_12 (by decide) (fun c_316 => ?_) (fun c_316 => ?_)
      · skip
        have o_317 : rl 1 a1 y9_1 := rl_lt c_316
        exact oE_v hx hb hr hlocks hP hD hS f9_2 [0, 1, 2, 3] rfl (by decide) trivial (Nat.le_of_ble_eq_true rfl) (Nat.le_of_ble_eq_true rfl) dX0_judgeStrikes_99
      · skip
        have o_318 : rl 0 y9_1 a1 := rl_nlt c_316
        have h_319 : rg 1 1023 y9_1 := rl_x o_318 hy9_1 i_a1 (by decide) (by decide)
        have h_320 : rg 1 1023 a1 := rl_y o_318 hy9_1 i_a1 (by decide) (by decide)
        refine lv_iload hx hb dX0_judgeStrikes_15 (lv_at hl 5 rfl) ?_
        refine oC_i (Wc := []) (Wr := [(h0, .inr (0, [.ref h0_frees, .ref h0_low, .ref h0_high, .ref h0_letGoWeight, .ref h0_holdWeight, .ref h0_heardWith])), (aZ ca h0_frees 1024 f9_2), (aI ca h0_high 1024 F_h0_high), (aI ca h0_low 1024 F_h0_low)]) (va_runS (As := [.int y9_1]) (rest := []) ⟨hx, hb, hml, hown, hts⟩ (s_J6_bitCount_0f7a4 l D ca H.size y9_1) (va_cwS 1 hts gX0_judgeStrikes_J6_bitCount_0f7a4 rfl rfl rfl (by decide +kernel) ⟨Nat.le_of_ble_eq_true rfl, Nat.le_of_ble_eq_true rfl⟩) (oPS hK hP hD [] rfl (by decide)) rfl rfl hl.1 rfl (lv_room (Nat.le_of_ble_eq_true rfl)) dX0_judgeStrikes_17 ⟨Nat.le_of_ble_eq_true rfl, Nat.le_of_ble_eq_true rfl⟩) hP hD hS hA [] [0, 1, 2, 3] rfl rfl (by decide) (by decide) (fun r_321 u H locs w_322 hP hD hS => ?_)
        obtain ⟨⟩ := u
        have hP : va_P D vwCl [(h0, .inr (0, [.ref h0_frees, .ref h0_low, .ref h0_high, .ref h0_letGoWeight, .ref h0_holdWeight, .ref h0_heardWith])), (aZ ca h0_frees 1024 f9_2), (aI ca h0_high 1024 F_h0_high), (aI ca h0_low 1024 F_h0_low)] H := hP
        have hD : va_D A [(h0, .inr (0, [.ref h0_frees, .ref h0_low, .ref h0_high, .ref h0_letGoWeight, .ref h0_holdWeight, .ref h0_heardWith])), (aZ ca h0_frees 1024 f9_2), (aI ca h0_high 1024 F_h0_high), (aI ca h0_low 1024 F_h0_low)] := hD
        try dsimp only at w_322
        have h_323 := w_322
        refine lv_istore (lv' := [(6, .int r_321), (0, .ref h0), (1, .int a1), (2, .int a2), (3, .int a3), (4, .int y9_0), (5, .int y9_1)]) hx hb dX0_judgeStrikes_20 hl (by decide) rfl (fun ls hl => ?_)
        refine lv_iload hx hb dX0_judgeStrikes_22 (lv_at hl 6 rfl) ?_
        refine lv_iload_n hx hb dX0_judgeStrikes_24 rfl (lv_at hl 2 rfl) ?_
        refine lv_iconst (v := (-1)) hx hb dX0_judgeStrikes_25 (by decide) ?_
        refine lv_ixor hx hb dX0_judgeStrikes_26 ?_
        refine lv_topi (fun x_324 ex_324 => ?_)
        refine lv_iand hx hb dX0_judgeStrikes_27 ?_
        refine lv_topi (fun x_325 ex_325 => ?_)
        have h_326 : rg 0 1023 x_325 := by rw [ex_325]; exact rg_and h_319 (by decide) (by decide) (by decide)
        have o_327 : rl 0 x_325 y9_1 := by rw [ex_325]; exact rl_and h_319 (by decide)
        refine lv_if_ne (tgt := 93) hx hb dX0_judgeStrikes_28 (by decide) (fun c_328 => ?_) (fun c_328 => ?_)
        · skip
          have h_329 : rg 1 1023 x_325 := cl_nlo c_328 h_326 (show (0 : Int32).toInt = 0 by decide) (by decide) (by decide)
          exact J93_295 f9_2 h_320 h_319 o_318 H locs ls (oPsub hP [0, 1, 2, 3] rfl) (hD.sub [0, 1, 2, 3] (by decide) rfl) hS (lv_sub hl [1, 2, 3, 4, 5, 6] rfl)
        · skip
          have o_330 : rl 0 x_325 0 := rl_eq c_328
          have h_331 : rg 0 0 x_325 := rl_x o_330 h_326 (⟨by decide, by decide⟩ : rg 0 0 (0 : Int32)) (by decide) (by decide)
          have o_332 : rl 0 0 x_325 := rl_eq c_328.symm
          refine lv_iload hx hb dX0_judgeStrikes_31 (lv_at hl 0 rfl) ?_
          refine lv_iload_n hx hb dX0_judgeStrikes_33 rfl (lv_at hl 3 rfl) ?_
          refine lv_icmp_lt (tgt := 93) hx hb dX0_judgeStrikes_34 (by decide) (fun c_333 => ?_) (fun c_333 => ?_)
          · skip
            have o_334 : rl 1 r_321 a2 := rl_lt c_333
            have h_335 : rg 1 2147483647 a2 := rl_y o_334 h_323 (rga a2) (by decide) (by decide)
            exact J93_295 f9_2 h_320 h_319 o_318 H locs ls (oPsub hP [0, 1, 2, 3] rfl) (hD.sub [0, 1, 2, 3] (by decide) rfl) hS (lv_sub hl [1, 2, 3, 4, 5, 6] rfl)
          · skip
            have o_336 : rl 0 a2 r_321 := rl_nlt c_333
            have h_337 : rg (-2147483648) 63 a2 := rl_x o_336 (rga a2) h_323 (by decide) (by decide)
            refine lv_iload hx hb dX0_judgeStrikes_37 (lv_at hl 5 rfl) ?_
            refine lv_iload hx hb dX0_judgeStrikes_39 (lv_at hl 0 rfl) ?_
            refine lv_isub hx hb dX0_judgeStrikes_41 ?_
            refine lv_topi (fun x_338 ex_338 => ?_)
            have h_339 : rg (-63) 63 x_338 := by rw [ex_338]; exact rg_sub hy9_0 h_323 (by decide) (by decide) (by decide) (by decide)
            have l_340 : lq x_338.toInt ((-1) * r_321.toInt + y9_0.toInt) := lqm (by rw [ex_338]; have q := tsub hy9_0 h_323 (by decide) (by decide); omega)
            refine lv_iconst (v := 2) hx hb dX0_judgeStrikes_42 (by decide) ?_
            refine lv_irem hx hb dX0_judgeStrikes_43 (by decide) ?_
            refine lv_topi (fun x_341 ex_341 => ?_)
            refine lv_if_ne (tgt := 51) hx hb dX0_judgeStrikes_44 (by decide) (fun c_342 => ?_) (fun c_342 => ?_)
            · skip
              refine lv_iconst (v := 0) hx hb dX0_judgeStrikes_51 (by decide) ?_
              exact J52_301 r_321 0 h_323 (rlm (by have q0 := rle o_336; omega)) (⟨by decide, by decide⟩ : rg 0 1 (0 : Int32)) h_320 h_337 h_319 o_318 H locs ls (oPsub hP [0, 1, 2, 3] rfl) (hD.sub [0, 1, 2, 3] (by decide) rfl) hS (lv_sub hl [1, 2, 3, 4, 5, 6, 0] rfl)
            · skip
              have o_343 : rl 0 x_341 0 := rl_eq c_342
              have h_344 : rg (-2147483648) 0 x_341 := rl_x o_343 (rga x_341) (⟨by decide, by decide⟩ : rg 0 0 (0 : Int32)) (by decide) (by decide)
              have o_345 : rl 0 0 x_341 := rl_eq c_342.symm
              have h_346 : rg 0 0 x_341 := rl_y o_345 (⟨by decide, by decide⟩ : rg 0 0 (0 : Int32)) h_344 (by decide) (by decide)
              refine lv_iconst (v := 1) hx hb dX0_judgeStrikes_47 (by decide) ?_
              refine lv_goto (tgt := 52) hx hb dX0_judgeStrikes_48 (by decide) ?_
              exact J52_301 r_321 1 h_323 (rlm (by have q0 := rle o_336; omega)) (⟨by decide, by decide⟩ : rg 0 1 (1 : Int32)) h_320 h_337 h_319 o_318 H locs ls (oPsub hP [0, 1, 2, 3] rfl) (hD.sub [0, 1, 2, 3] (by decide) rfl) hS (lv_sub hl [1, 2, 3, 4, 5, 6, 0] rfl)
  refine lv_iload_n hx hb dX0_judgeStrikes_0 rfl (lv_at hl 1 rfl) ?_
  refine oC_i (Wc := []) (Wr := [(h0, .inr (0, [.ref h0_frees, .ref h0_low, .ref h0_high, .ref h0_letGoWeight, .ref h0_holdWeight, .ref h0_heardWith])), (aZ ca h0_frees 1024 F_h0_frees), (aI ca h0_high 1024 F_h0_high), (aI ca h0_low 1024 F_h0_low)]) (va_runS (As := [.int a1]) (rest := []) ⟨hx, hb, hml, hown, hts⟩ (s_J6_bitCount_0f7a4 l D ca H.size a1) (va_cwS 1 hts gX0_judgeStrikes_J6_bitCount_0f7a4 rfl rfl rfl (by decide +kernel) ⟨Nat.le_of_ble_eq_true rfl, Nat.le_of_ble_eq_true rfl⟩) (oPS hK hP hD [] rfl (by decide)) rfl rfl hl.1 rfl (lv_room (Nat.le_of_ble_eq_true rfl)) dX0_judgeStrikes_1 ⟨Nat.le_of_ble_eq_true rfl, Nat.le_of_ble_eq_true rfl⟩) hP hD hS hA [] [0, 1, 2, 3] rfl rfl (by decide) (by decide) (fun r_347 u H locs w_348 hP hD hS => ?_)
  obtain ⟨⟩ := u
  have hP : va_P D vwCl [(h0, .inr (0, [.ref h0_frees, .ref h0_low, .ref h0_high, .ref h0_letGoWeight, .ref h0_holdWeight, .ref h0_heardWith])), (aZ ca h0_frees 1024 F_h0_frees), (aI ca h0_high 1024 F_h0_high), (aI ca h0_low 1024 F_h0_low)] H := hP
  have hD : va_D A [(h0, .inr (0, [.ref h0_frees, .ref h0_low, .ref h0_high, .ref h0_letGoWeight, .ref h0_holdWeight, .ref h0_heardWith])), (aZ ca h0_frees 1024 F_h0_frees), (aI ca h0_high 1024 F_h0_high), (aI ca h0_low 1024 F_h0_low)] := hD
  try dsimp only at w_348
  have h_349 := w_348
  refine lv_istore (lv' := [(4, .int r_347), (0, .ref h0), (1, .int a1), (2, .int a2), (3, .int a3)]) hx hb dX0_judgeStrikes_4 hl (by decide) rfl (fun ls hl => ?_)
  refine lv_iconst (v := 1) hx hb dX0_judgeStrikes_6 (by decide) ?_
  refine lv_istore (lv' := [(5, .int 1), (4, .int r_347), (0, .ref h0), (1, .int a1), (2, .int a2), (3, .int a3)]) hx hb dX0_judgeStrikes_7 hl (by decide) rfl (fun ls hl => ?_)
  exact J9_245 1024 r_347 1 F_h0_frees trivial h_349 (⟨by decide, by decide⟩ : rg 1 1024 (1 : Int32)) (by have q0 := (⟨by decide, by decide⟩ : rg 1 1 (1 : Int32)).1; omega) H locs ls (oPsub hP [0, 1, 2, 3] rfl) (hD.sub [0, 1, 2, 3] (by decide) rfl) hS (lv_sub hl [2, 3, 4, 5, 1, 0] rfl)
theorem dX0_firstStruck_0 : decode cX0_firstStruck 0 = .ok (.iconst 0, 1) := by decide +kernel
theorem dX0_firstStruck_1 : decode cX0_firstStruck 1 = .ok (.istore_n 2, 1) := by decide +kernel
theorem dX0_firstStruck_2 : decode cX0_firstStruck 2 = .ok (.iload_n 2, 1) := by decide +kernel
theorem dX0_firstStruck_3 : decode cX0_firstStruck 3 = .ok (.bipush 10, 2) := by decide +kernel
theorem dX0_firstStruck_5 : decode cX0_firstStruck 5 = .ok (.if_icmp .ge 51, 3) := by decide +kernel
theorem dX0_firstStruck_8 : decode cX0_firstStruck 8 = .ok (.iload_n 1, 1) := by decide +kernel
theorem dX0_firstStruck_9 : decode cX0_firstStruck 9 = .ok (.iload_n 2, 1) := by decide +kernel
theorem dX0_firstStruck_10 : decode cX0_firstStruck 10 = .ok (.ishr, 1) := by decide +kernel
theorem dX0_firstStruck_11 : decode cX0_firstStruck 11 = .ok (.iconst 1, 1) := by decide +kernel
theorem dX0_firstStruck_12 : decode cX0_firstStruck 12 = .ok (.iand, 1) := by decide +kernel
theorem dX0_firstStruck_13 : decode cX0_firstStruck 13 = .ok (.ifCond .eq 7, 3) := by decide +kernel
theorem dX0_firstStruck_16 : decode cX0_firstStruck 16 = .ok (.iconst 1, 1) := by decide +kernel
theorem dX0_firstStruck_17 : decode cX0_firstStruck 17 = .ok (.goto 4, 3) := by decide +kernel
theorem dX0_firstStruck_20 : decode cX0_firstStruck 20 = .ok (.iconst 0, 1) := by decide +kernel
theorem dX0_firstStruck_21 : decode cX0_firstStruck 21 = .ok (.istore_n 3, 1) := by decide +kernel
theorem dX0_firstStruck_22 : decode cX0_firstStruck 22 = .ok (.iload_n 3, 1) := by decide +kernel
theorem dX0_firstStruck_23 : decode cX0_firstStruck 23 = .ok (.ifCond .eq 27, 3) := by decide +kernel
theorem dX0_firstStruck_26 : decode cX0_firstStruck 26 = .ok (.aload_n 0, 1) := by decide +kernel
theorem dX0_firstStruck_27 : decode cX0_firstStruck 27 = .ok (.getfield 11, 3) := by decide +kernel
theorem dX0_firstStruck_30 : decode cX0_firstStruck 30 = .ok (.iload_n 1, 1) := by decide +kernel
theorem dX0_firstStruck_31 : decode cX0_firstStruck 31 = .ok (.baload, 1) := by decide +kernel
theorem dX0_firstStruck_32 : decode cX0_firstStruck 32 = .ok (.ifCond .eq 16, 3) := by decide +kernel
theorem dX0_firstStruck_35 : decode cX0_firstStruck 35 = .ok (.aload_n 0, 1) := by decide +kernel
theorem dX0_firstStruck_36 : decode cX0_firstStruck 36 = .ok (.getfield 11, 3) := by decide +kernel
theorem dX0_firstStruck_39 : decode cX0_firstStruck 39 = .ok (.iload_n 1, 1) := by decide +kernel
theorem dX0_firstStruck_40 : decode cX0_firstStruck 40 = .ok (.iconst 1, 1) := by decide +kernel
theorem dX0_firstStruck_41 : decode cX0_firstStruck 41 = .ok (.iload_n 2, 1) := by decide +kernel
theorem dX0_firstStruck_42 : decode cX0_firstStruck 42 = .ok (.ishl, 1) := by decide +kernel
theorem dX0_firstStruck_43 : decode cX0_firstStruck 43 = .ok (.ixor, 1) := by decide +kernel
theorem dX0_firstStruck_44 : decode cX0_firstStruck 44 = .ok (.baload, 1) := by decide +kernel
theorem dX0_firstStruck_45 : decode cX0_firstStruck 45 = .ok (.ifCond .eq 5, 3) := by decide +kernel
theorem dX0_firstStruck_48 : decode cX0_firstStruck 48 = .ok (.iload_n 2, 1) := by decide +kernel
theorem dX0_firstStruck_49 : decode cX0_firstStruck 49 = .ok (.ireturn, 1) := by decide +kernel
theorem dX0_firstStruck_50 : decode cX0_firstStruck 50 = .ok (.iinc 2 1, 3) := by decide +kernel
theorem dX0_firstStruck_53 : decode cX0_firstStruck 53 = .ok (.goto (-51), 3) := by decide +kernel
theorem dX0_firstStruck_56 : decode cX0_firstStruck 56 = .ok (.iconst (-1), 1) := by decide +kernel
theorem dX0_firstStruck_57 : decode cX0_firstStruck 57 = .ok (.ireturn, 1) := by decide +kernel
set_option maxHeartbeats 4000000 in
set_option maxRecDepth 100000 in
theorem s_X0_firstStruck (l : Launch) (D : va_G) (ca : Nat → ClassId) (sz : Nat) (h0 : Nat) (a1 : Int32) (h0_frees : Nat) (h0_low : Nat) (h0_high : Nat) (h0_letGoWeight : Nat) (h0_holdWeight : Nat) (h0_heardWith : Nat) (F_h0_frees : Nat → Int32) (i_a1 : rg 0 1023 a1) : oMet l yX0_firstStruck wsX0_firstStruck ({ frames := 0, cells := 0, slots := 0, locals := 0 } : Room) [.ref h0, .int a1] D ca sz [(h0, .inr (0, [.ref h0_frees, .ref h0_low, .ref h0_high, .ref h0_letGoWeight, .ref h0_holdWeight, .ref h0_heardWith])), (aZ ca h0_frees 1024 F_h0_frees)] (oQi D (fun (r : Int32) (u : Unit) => (rg (-1) 9 r)) (fun (u : Unit) => [(h0, .inr (0, [.ref h0_frees, .ref h0_low, .ref h0_high, .ref h0_letGoWeight, .ref h0_holdWeight, .ref h0_heardWith])), (aZ ca h0_frees 1024 F_h0_frees)])) 0 0 := by
  refine oM (cc := cX0_firstStruck) (maxL := 4) (ret := (some .int)) (by decide) rfl (Nat.le_of_ble_eq_true rfl) [(0, .ref h0), (1, .int a1)] rfl ?_
  intro p e s m below meth c A H locs ls hx hb hr hml hts hown hlocks hin hK hP hD hA hS hl
  have hown : s.vm.findClass RX0 = some m.cls := hown
  have k1 := hts (.fieldLink RX0 11 "LidCourt$Bench" "frees" "[Z") (by decide +kernel)
  have k2 : ∀ w ∈ wsX00, w ∈ wsX0_firstStruck := fun _ h => List.mem_cons_of_mem _ (List.mem_append_right _ h)
  have J2_163 : ∀ (n : Nat) (y2_0 : Int32), True → rg 0 10 y2_0 → 10 < y2_0.toInt + (n : Int) → ∀ (H : Heap) (locs : List Loc) (ls : Array Slot), va_P D vwCl [(h0, .inr (0, [.ref h0_frees, .ref h0_low, .ref h0_high, .ref h0_letGoWeight, .ref h0_holdWeight, .ref h0_heardWith])), (aZ ca h0_frees 1024 F_h0_frees)] H → va_D A [(h0, .inr (0, [.ref h0_frees, .ref h0_low, .ref h0_high, .ref h0_letGoWeight, .ref h0_holdWeight, .ref h0_heardWith])), (aZ ca h0_frees 1024 F_h0_frees)] → va_S A s.heap H locs → lv_has ls 4 [(0, .ref h0), (1, .int a1), (2, .int y2_0)] → W p l e ({ frames := 0, cells := 0, slots := 0, locals := 0 } : Room) s m ([.ref h0, .int a1] : List Value).toArray below meth c H locs 0 0 (MQ below ((oQi D (fun (r : Int32) (u : Unit) => (rg (-1) 9 r)) (fun (u : Unit) => [(h0, .inr (0, [.ref h0_frees, .ref h0_low, .ref h0_high, .ref h0_letGoWeight, .ref h0_holdWeight, .ref h0_heardWith])), (aZ ca h0_frees 1024 F_h0_frees)])) A) ([.ref h0, .int a1] : List Value).toArray s 0 0 A) (F0 m 2 ls []) := by
    intro n
    induction n with
    | zero => intro y2_0 _ hy2_0 hn; exact absurd hn (by have q9 := hy2_0.2; omega)
    | succ n ih =>
      intro y2_0 _ hy2_0 hn H locs ls hP hD hS hl
      have J50_201 : ∀ (_ : Unit), rg 0 9 y2_0 → ∀ (H : Heap) (locs : List Loc) (ls : Array Slot), va_P D vwCl [(h0, .inr (0, [.ref h0_frees, .ref h0_low, .ref h0_high, .ref h0_letGoWeight, .ref h0_holdWeight, .ref h0_heardWith])), (aZ ca h0_frees 1024 F_h0_frees)] H → va_D A [(h0, .inr (0, [.ref h0_frees, .ref h0_low, .ref h0_high, .ref h0_letGoWeight, .ref h0_holdWeight, .ref h0_heardWith])), (aZ ca h0_frees 1024 F_h0_frees)] → va_S A s.heap H locs → lv_has ls 4 [(0, .ref h0), (1, .int a1), (2, .int y2_0)] → W p l e ({ frames := 0, cells := 0, slots := 0, locals := 0 } : Room) s m ([.ref h0, .int a1] : List Value).toArray below meth c H locs 0 0 (MQ below ((oQi D (fun (r : Int32) (u : Unit) => (rg (-1) 9 r)) (fun (u : Unit) => [(h0, .inr (0, [.ref h0_frees, .ref h0_low, .ref h0_high, .ref h0_letGoWeight, .ref h0_holdWeight, .ref h0_heardWith])), (aZ ca h0_frees 1024 F_h0_frees)])) A) ([.ref h0, .int a1] : List Value).toArray s 0 0 A) (F0 m 50 ls []) := by
        intro _ t50_y2_0 H locs ls hP hD hS hl
        obtain ⟨x_202, ex_202⟩ : ∃ y : Int32, y = y2_0 + 1 := ⟨_, rfl⟩
        have h_203 : rg 1 10 x_202 := by rw [ex_202]; exact rg_add t50_y2_0 (⟨by decide, by decide⟩ : rg 1 1 (1 : Int32)) (by decide) (by decide) (by decide) (by decide)
        have l_204 : lq x_202.toInt (y2_0.toInt + 1) := lqm (by rw [ex_202]; have q := tadd t50_y2_0 (⟨by decide, by decide⟩ : rg 1 1 (1 : Int32)) (by decide) (by decide); have r1 := lqe (lqm (by decide) : lq (1 : Int32).toInt 1); omega)
        refine lv_iinc (v := x_202) (lv' := [(2, .int x_202), (0, .ref h0), (1, .int a1)]) hx hb dX0_firstStruck_50 hl (k := 2) rfl (by rw [ex_202]; rfl) (by decide) rfl (fun ls hl => ?_)
        refine lv_goto (tgt := 2) hx hb dX0_firstStruck_53 (by decide) ?_
        exact ih x_202 trivial (rgw (lo := 0) (hi := 10) h_203 (by decide) (by decide)) (by have q0 := lqe l_204; omega) H locs ls (oPsub hP [0, 1] rfl) (hD.sub [0, 1] (by decide) rfl) hS (lv_sub hl [1, 2, 0] rfl)
      have J21_205 : ∀ (y21_0 : Int32), rg 0 1 y21_0 → rg 0 9 y2_0 → ∀ (H : Heap) (locs : List Loc) (ls : Array Slot), va_P D vwCl [(h0, .inr (0, [.ref h0_frees, .ref h0_low, .ref h0_high, .ref h0_letGoWeight, .ref h0_holdWeight, .ref h0_heardWith])), (aZ ca h0_frees 1024 F_h0_frees)] H → va_D A [(h0, .inr (0, [.ref h0_frees, .ref h0_low, .ref h0_high, .ref h0_letGoWeight, .ref h0_holdWeight, .ref h0_heardWith])), (aZ ca h0_frees 1024 F_h0_frees)] → va_S A s.heap H locs → lv_has ls 4 [(0, .ref h0), (1, .int a1), (2, .int y2_0)] → W p l e ({ frames := 0, cells := 0, slots := 0, locals := 0 } : Room) s m ([.ref h0, .int a1] : List Value).toArray below meth c H locs 0 0 (MQ below ((oQi D (fun (r : Int32) (u : Unit) => (rg (-1) 9 r)) (fun (u : Unit) => [(h0, .inr (0, [.ref h0_frees, .ref h0_low, .ref h0_high, .ref h0_letGoWeight, .ref h0_holdWeight, .ref h0_heardWith])), (aZ ca h0_frees 1024 F_h0_frees)])) A) ([.ref h0, .int a1] : List Value).toArray s 0 0 A) (F0 m 21 ls [.int y21_0]) := by
        intro y21_0 hy21_0 t21_y2_0 H locs ls hP hD hS hl
        refine lv_istore_n (lv' := [(3, .int y21_0), (0, .ref h0), (1, .int a1), (2, .int y2_0)]) hx hb dX0_firstStruck_21 rfl hl (by decide) rfl (fun ls hl => ?_)
        refine lv_iload_n hx hb dX0_firstStruck_22 rfl (lv_at hl 0 rfl) ?_
        refine lv_if_eq (tgt := 50) hx hb dX0_firstStruck_23 (by decide) (fun c_206 => ?_) (fun c_206 => ?_)
        · skip
          have o_207 : rl 0 y21_0 0 := rl_eq c_206
          have h_208 : rg 0 0 y21_0 := rl_x o_207 hy21_0 (⟨by decide, by decide⟩ : rg 0 0 (0 : Int32)) (by decide) (by decide)
          have o_209 : rl 0 0 y21_0 := rl_eq c_206.symm
          exact J50_201 () t21_y2_0 H locs ls (oPsub hP [0, 1] rfl) (hD.sub [0, 1] (by decide) rfl) hS (lv_sub hl [1, 2, 3] rfl)
        · skip
          have h_210 : rg 1 1 y21_0 := cl_nlo c_206 hy21_0 (show (0 : Int32).toInt = 0 by decide) (by decide) (by decide)
          refine lv_aload_n hx hb dX0_firstStruck_26 rfl (lv_at hl 1 rfl) ?_
          refine va_get (D := D) (ci := 0) (v := .ref h0_frees) (C := RX0) (T := TX0) (N := 6) hx hb hts k2 hown hK.1 hP 0 rfl rfl 0 (by decide) k1 (fun _ h9 => h9) rfl dX0_firstStruck_27 ?_
          refine lv_iload_n hx hb dX0_firstStruck_30 rfl (lv_at hl 2 rfl) ?_
          refine va_zald hx hb hK.1 hP 1 2 rfl rfl (rg_in i_a1 (by decide) (by decide)) dX0_firstStruck_31 ?_
          refine lv_topi (fun x_211 ex_211 => ?_)
          refine lv_if_eq (tgt := 48) hx hb dX0_firstStruck_32 (by decide) (fun c_212 => ?_) (fun c_212 => ?_)
          · skip
            have o_213 : rl 0 x_211 0 := rl_eq c_212
            have h_214 : rg (-2147483648) 0 x_211 := rl_x o_213 (rga x_211) (⟨by decide, by decide⟩ : rg 0 0 (0 : Int32)) (by decide) (by decide)
            have o_215 : rl 0 0 x_211 := rl_eq c_212.symm
            have h_216 : rg 0 0 x_211 := rl_y o_215 (⟨by decide, by decide⟩ : rg 0 0 (0 : Int32)) h_214 (by decide) (by decide)
            refine lv_iload_n hx hb dX0_firstStruck_48 rfl (lv_at hl 3 rfl) ?_
            exact oE_i hx hb hr rfl hlocks hP hD hS () [0, 1] rfl (by decide) (rgw (lo := (-1)) (hi := 9) t21_y2_0 (by decide) (by decide)) (Nat.le_of_ble_eq_true rfl) (Nat.le_of_ble_eq_true rfl) dX0_firstStruck_49
          · skip
            refine lv_aload_n hx hb dX0_firstStruck_35 rfl (lv_at hl 1 rfl) ?_
            refine va_get (D := D) (ci := 0) (v := .ref h0_frees) (C := RX0) (T := TX0) (N := 6) hx hb hts k2 hown hK.1 hP 0 rfl rfl 0 (by decide) k1 (fun _ h9 => h9) rfl dX0_firstStruck_36 ?_
            refine lv_iload_n hx hb dX0_firstStruck_39 rfl (lv_at hl 2 rfl) ?_
            refine lv_iconst (v := 1) hx hb dX0_firstStruck_40 (by decide) ?_
            refine lv_iload_n hx hb dX0_firstStruck_41 rfl (lv_at hl 3 rfl) ?_
            refine lv_ishl hx hb dX0_firstStruck_42 ?_
            refine lv_topi (fun x_217 ex_217 => ?_)
            have h_218 : rg 1 512 x_217 := by rw [ex_217]; exact rg_shl1 t21_y2_0 (by decide) (by decide) (by decide) (by decide)
            refine lv_ixor hx hb dX0_firstStruck_43 ?_
            refine lv_topi (fun x_219 ex_219 => ?_)
            have h_220 : rg 0 1023 x_219 := by rw [ex_219]; exact rg_xor 10 i_a1 h_218 (by decide) (by decide) (by decide) (by decide) (by decide) (by decide) (by decide)
            refine va_zald hx hb hK.1 hP 1 2 rfl rfl (rg_in h_220 (by decide) (by decide)) dX0_firstStruck_44 ?_
            refine lv_topi (fun x_221 ex_221 => ?_)
            refine lv_if_eq (tgt := 50) hx hb dX0_firstStruck_45 (by decide) (fun c_222 => ?_) (fun c_222 => ?_)
            · skip
              have o_223 : rl 0 x_221 0 := rl_eq c_222
              have h_224 : rg (-2147483648) 0 x_221 := rl_x o_223 (rga x_221) (⟨by decide, by decide⟩ : rg 0 0 (0 : Int32)) (by decide) (by decide)
              have o_225 : rl 0 0 x_221 := rl_eq c_222.symm
              have h_226 : rg 0 0 x_221 := rl_y o_225 (⟨by decide, by decide⟩ : rg 0 0 (0 : Int32)) h_224 (by decide) (by decide)
              exact J50_201 () t21_y2_0 H locs ls (oPsub hP [0, 1] rfl) (hD.sub [0, 1] (by decide) rfl) hS (lv_sub hl [1, 2, 3] rfl)
            · skip
              refine lv_iload_n hx hb dX0_firstStruck_48 rfl (lv_at hl 3 rfl) ?_
              exact oE_i hx hb hr rfl hlocks hP hD hS () [0, 1] rfl (by decide) (rgw (lo := (-1)) (hi := 9) t21_y2_0 (by decide) (by decide)) (Nat.le_of_ble_eq_true rfl) (Nat.le_of_ble_eq_true rfl) dX0_firstStruck_49
      refine lv_iload_n hx hb dX0_firstStruck_2 rfl (lv_at hl 2 rfl) ?_
      refine lv_bipush (v := 10) hx hb dX0_firstStruck_3 (by decide) ?_
      refine lv_icmp_ge (tgt := 56) hx hb dX0_firstStruck_5 (by decide) (fun c_227 => ?_) (fun c_227 => ?_)
      · skip
        have o_228 : rl 0 10 y2_0 := rl_le c_227
        have h_229 : rg 10 10 y2_0 := rl_y o_228 (⟨by decide, by decide⟩ : rg 10 10 (10 : Int32)) hy2_0 (by decide) (by decide)
        refine lv_iconst (v := (-1)) hx hb dX0_firstStruck_56 (by decide) ?_
        exact oE_i hx hb hr rfl hlocks hP hD hS () [0, 1] rfl (by decide) (⟨by decide, by decide⟩ : rg (-1) 9 ((-1) : Int32)) (Nat.le_of_ble_eq_true rfl) (Nat.le_of_ble_eq_true rfl) dX0_firstStruck_57
      · skip
        have o_230 : rl 1 y2_0 10 := rl_nle c_227
        have h_231 : rg 0 9 y2_0 := rl_x o_230 hy2_0 (⟨by decide, by decide⟩ : rg 10 10 (10 : Int32)) (by decide) (by decide)
        refine lv_iload_n hx hb dX0_firstStruck_8 rfl (lv_at hl 1 rfl) ?_
        refine lv_iload_n hx hb dX0_firstStruck_9 rfl (lv_at hl 2 rfl) ?_
        refine lv_ishr hx hb dX0_firstStruck_10 ?_
        refine lv_topi (fun x_232 ex_232 => ?_)
        refine lv_iconst (v := 1) hx hb dX0_firstStruck_11 (by decide) ?_
        refine lv_iand hx hb dX0_firstStruck_12 ?_
        refine lv_topi (fun x_233 ex_233 => ?_)
        have h_234 : rg 0 1 x_233 := by rw [ex_233]; exact rg_and' (⟨by decide, by decide⟩ : rg 1 1 (1 : Int32)) (by decide) (by decide) (by decide)
        refine lv_if_eq (tgt := 20) hx hb dX0_firstStruck_13 (by decide) (fun c_235 => ?_) (fun c_235 => ?_)
        · skip
          have o_236 : rl 0 x_233 0 := rl_eq c_235
          have h_237 : rg 0 0 x_233 := rl_x o_236 h_234 (⟨by decide, by decide⟩ : rg 0 0 (0 : Int32)) (by decide) (by decide)
          have o_238 : rl 0 0 x_233 := rl_eq c_235.symm
          refine lv_iconst (v := 0) hx hb dX0_firstStruck_20 (by decide) ?_
          exact J21_205 0 (⟨by decide, by decide⟩ : rg 0 1 (0 : Int32)) h_231 H locs ls (oPsub hP [0, 1] rfl) (hD.sub [0, 1] (by decide) rfl) hS (lv_sub hl [0, 1, 2] rfl)
        · skip
          have h_239 : rg 1 1 x_233 := cl_nlo c_235 h_234 (show (0 : Int32).toInt = 0 by decide) (by decide) (by decide)
          refine lv_iconst (v := 1) hx hb dX0_firstStruck_16 (by decide) ?_
          refine lv_goto (tgt := 21) hx hb dX0_firstStruck_17 (by decide) ?_
          exact J21_205 1 (⟨by decide, by decide⟩ : rg 0 1 (1 : Int32)) h_231 H locs ls (oPsub hP [0, 1] rfl) (hD.sub [0, 1] (by decide) rfl) hS (lv_sub hl [0, 1, 2] rfl)
  refine lv_iconst (v := 0) hx hb dX0_firstStruck_0 (by decide) ?_
  refine lv_istore_n (lv' := [(2, .int 0), (0, .ref h0), (1, .int a1)]) hx hb dX0_firstStruck_1 rfl hl (by decide) rfl (fun ls hl => ?_)
  exact J2_163 11 0 trivial (⟨by decide, by decide⟩ : rg 0 10 (0 : Int32)) (by have q0 := (⟨by decide, by decide⟩ : rg 0 0 (0 : Int32)).1; omega) H locs ls (oPsub hP [0, 1] rfl) (hD.sub [0, 1] (by decide) rfl) hS (lv_sub hl [1, 2, 0] rfl)
theorem dX11_strikes_0 : decode cX11_strikes 0 = .ok (.aload_n 0, 1) := by decide +kernel
theorem dX11_strikes_1 : decode cX11_strikes 1 = .ok (.iload_n 1, 1) := by decide +kernel
theorem dX11_strikes_2 : decode cX11_strikes 2 = .ok (.invokevirtual 164, 3) := by decide +kernel
theorem dX11_strikes_5 : decode cX11_strikes 5 = .ok (.ifCond .eq 22, 3) := by decide +kernel
theorem dX11_strikes_8 : decode cX11_strikes 8 = .ok (.iload_n 2, 1) := by decide +kernel
theorem dX11_strikes_9 : decode cX11_strikes 9 = .ok (.iconst 1, 1) := by decide +kernel
theorem dX11_strikes_10 : decode cX11_strikes 10 = .ok (.if_icmp .lt 17, 3) := by decide +kernel
theorem dX11_strikes_13 : decode cX11_strikes 13 = .ok (.iload_n 2, 1) := by decide +kernel
theorem dX11_strikes_14 : decode cX11_strikes 14 = .ok (.aload_n 0, 1) := by decide +kernel
theorem dX11_strikes_15 : decode cX11_strikes 15 = .ok (.getfield 26, 3) := by decide +kernel
theorem dX11_strikes_18 : decode cX11_strikes 18 = .ok (.getfield 152, 3) := by decide +kernel
theorem dX11_strikes_21 : decode cX11_strikes 21 = .ok (.invokestatic 254, 3) := by decide +kernel
theorem dX11_strikes_24 : decode cX11_strikes 24 = .ok (.if_icmp .lt 5, 3) := by decide +kernel
theorem dX11_strikes_27 : decode cX11_strikes 27 = .ok (.iconst (-1), 1) := by decide +kernel
theorem dX11_strikes_28 : decode cX11_strikes 28 = .ok (.ireturn, 1) := by decide +kernel
theorem dX11_strikes_29 : decode cX11_strikes 29 = .ok (.aload_n 0, 1) := by decide +kernel
theorem dX11_strikes_30 : decode cX11_strikes 30 = .ok (.getfield 63, 3) := by decide +kernel
theorem dX11_strikes_33 : decode cX11_strikes 33 = .ok (.aload_n 0, 1) := by decide +kernel
theorem dX11_strikes_34 : decode cX11_strikes 34 = .ok (.getfield 19, 3) := by decide +kernel
theorem dX11_strikes_37 : decode cX11_strikes 37 = .ok (.aload_n 0, 1) := by decide +kernel
theorem dX11_strikes_38 : decode cX11_strikes 38 = .ok (.getfield 26, 3) := by decide +kernel
theorem dX11_strikes_41 : decode cX11_strikes 41 = .ok (.aload_n 0, 1) := by decide +kernel
theorem dX11_strikes_42 : decode cX11_strikes 42 = .ok (.getfield 19, 3) := by decide +kernel
theorem dX11_strikes_45 : decode cX11_strikes 45 = .ok (.getfield 167, 3) := by decide +kernel
theorem dX11_strikes_48 : decode cX11_strikes 48 = .ok (.iload_n 1, 1) := by decide +kernel
theorem dX11_strikes_49 : decode cX11_strikes 49 = .ok (.iaload, 1) := by decide +kernel
theorem dX11_strikes_50 : decode cX11_strikes 50 = .ok (.invokevirtual 246, 3) := by decide +kernel
theorem dX11_strikes_53 : decode cX11_strikes 53 = .ok (.aload_n 0, 1) := by decide +kernel
theorem dX11_strikes_54 : decode cX11_strikes 54 = .ok (.getfield 63, 3) := by decide +kernel
theorem dX11_strikes_57 : decode cX11_strikes 57 = .ok (.aload_n 0, 1) := by decide +kernel
theorem dX11_strikes_58 : decode cX11_strikes 58 = .ok (.getfield 26, 3) := by decide +kernel
theorem dX11_strikes_61 : decode cX11_strikes 61 = .ok (.getfield 152, 3) := by decide +kernel
theorem dX11_strikes_64 : decode cX11_strikes 64 = .ok (.iload_n 2, 1) := by decide +kernel
theorem dX11_strikes_65 : decode cX11_strikes 65 = .ok (.aload_n 0, 1) := by decide +kernel
theorem dX11_strikes_66 : decode cX11_strikes 66 = .ok (.getfield 19, 3) := by decide +kernel
theorem dX11_strikes_69 : decode cX11_strikes 69 = .ok (.getfield 230, 3) := by decide +kernel
theorem dX11_strikes_72 : decode cX11_strikes 72 = .ok (.invokevirtual 288, 3) := by decide +kernel
theorem dX11_strikes_75 : decode cX11_strikes 75 = .ok (.aload_n 0, 1) := by decide +kernel
theorem dX11_strikes_76 : decode cX11_strikes 76 = .ok (.getfield 83, 3) := by decide +kernel
theorem dX11_strikes_79 : decode cX11_strikes 79 = .ok (.iconst 5, 1) := by decide +kernel
theorem dX11_strikes_80 : decode cX11_strikes 80 = .ok (.aload_n 0, 1) := by decide +kernel
theorem dX11_strikes_81 : decode cX11_strikes 81 = .ok (.getfield 63, 3) := by decide +kernel
theorem dX11_strikes_84 : decode cX11_strikes 84 = .ok (.aload_n 0, 1) := by decide +kernel
theorem dX11_strikes_85 : decode cX11_strikes 85 = .ok (.getfield 26, 3) := by decide +kernel
theorem dX11_strikes_88 : decode cX11_strikes 88 = .ok (.getfield 152, 3) := by decide +kernel
theorem dX11_strikes_91 : decode cX11_strikes 91 = .ok (.invokevirtual 292, 3) := by decide +kernel
theorem dX11_strikes_94 : decode cX11_strikes 94 = .ok (.iastore, 1) := by decide +kernel
theorem dX11_strikes_95 : decode cX11_strikes 95 = .ok (.aload_n 0, 1) := by decide +kernel
theorem dX11_strikes_96 : decode cX11_strikes 96 = .ok (.getfield 63, 3) := by decide +kernel
theorem dX11_strikes_99 : decode cX11_strikes 99 = .ok (.getfield 295, 3) := by decide +kernel
theorem dX11_strikes_102 : decode cX11_strikes 102 = .ok (.aload_n 0, 1) := by decide +kernel
theorem dX11_strikes_103 : decode cX11_strikes 103 = .ok (.getfield 26, 3) := by decide +kernel
theorem dX11_strikes_106 : decode cX11_strikes 106 = .ok (.getfield 152, 3) := by decide +kernel
theorem dX11_strikes_109 : decode cX11_strikes 109 = .ok (.baload, 1) := by decide +kernel
theorem dX11_strikes_110 : decode cX11_strikes 110 = .ok (.ifCond .eq 7, 3) := by decide +kernel
theorem dX11_strikes_113 : decode cX11_strikes 113 = .ok (.iconst 1, 1) := by decide +kernel
theorem dX11_strikes_114 : decode cX11_strikes 114 = .ok (.goto 4, 3) := by decide +kernel
theorem dX11_strikes_117 : decode cX11_strikes 117 = .ok (.iconst 0, 1) := by decide +kernel
theorem dX11_strikes_118 : decode cX11_strikes 118 = .ok (.ireturn, 1) := by decide +kernel
set_option maxRecDepth 20000 in
theorem ggX11_strikes_X11_isCase : GoodIn wsX11_strikes wsX11_isCase := goodIn_r _ [13, 4, 14, 75, 76, 77, 78, 79, 80, 81, 82, 83, 84, 85, 86, 87, 88, 89, 101, 102, 103, 104, 105, 106, 107, 108, 109, 110, 111, 112, 113, 114, 115, 116] rfl (by decide +kernel)
set_option maxRecDepth 20000 in
theorem gX11_strikes_X11_isCase : GoodIn wsX11_strikes (wsV RX11 164 RX11 yX11_isCase wsX11_isCase) := goodIn_app (goodIn_of _ (by decide +kernel)) ggX11_strikes_X11_isCase
set_option maxRecDepth 20000 in
theorem ggX11_strikes_J6_bitCount_0f7a4 : GoodIn wsX11_strikes wsJ6_bitCount_0f7a4 := goodIn_r _ [18, 19, 20, 21] rfl (by decide +kernel)
set_option maxRecDepth 20000 in
theorem gX11_strikes_J6_bitCount_0f7a4 : GoodIn wsX11_strikes (va_wsS RX11 254 yJ6_bitCount_0f7a4 wsJ6_bitCount_0f7a4) := goodIn_app (goodIn_of _ (by decide +kernel)) ggX11_strikes_J6_bitCount_0f7a4
set_option maxRecDepth 20000 in
theorem ggX11_strikes_X0_measure : GoodIn wsX11_strikes wsX0_measure := goodIn_r _ [26, 27, 28, 29, 30, 31, 32, 33, 34, 35, 36, 37, 38, 17, 39, 40, 41, 42, 43, 44, 45, 46, 47, 48, 49, 50, 51, 52, 53, 54, 55, 56, 101, 102, 103, 104, 105, 106, 107, 108, 109, 110, 111, 112, 113, 114, 115, 116, 117, 118, 119, 120, 121, 122, 90, 91, 92, 93, 94, 95, 96, 97, 98, 99, 100] rfl (by decide +kernel)
set_option maxRecDepth 20000 in
theorem gX11_strikes_X0_measure : GoodIn wsX11_strikes (wsV RX11 246 RX0 yX0_measure wsX0_measure) := goodIn_app (goodIn_of _ (by decide +kernel)) ggX11_strikes_X0_measure
set_option maxRecDepth 20000 in
theorem ggX11_strikes_X0_judgeStrikes : GoodIn wsX11_strikes wsX0_judgeStrikes := goodIn_r _ [60, 61, 62, 16, 17, 18, 19, 20, 21, 63, 64, 65, 25, 66, 29, 28, 67, 68, 69, 70, 117, 118, 119, 120, 121, 122] rfl (by decide +kernel)
set_option maxRecDepth 20000 in
theorem gX11_strikes_X0_judgeStrikes : GoodIn wsX11_strikes (wsV RX11 288 RX0 yX0_judgeStrikes wsX0_judgeStrikes) := goodIn_app (goodIn_of _ (by decide +kernel)) ggX11_strikes_X0_judgeStrikes
set_option maxRecDepth 20000 in
theorem ggX11_strikes_X0_firstStruck : GoodIn wsX11_strikes wsX0_firstStruck := goodIn_r _ [74, 61, 117, 118, 119, 120, 121, 122] rfl (by decide +kernel)
set_option maxRecDepth 20000 in
theorem gX11_strikes_X0_firstStruck : GoodIn wsX11_strikes (wsV RX11 292 RX0 yX0_firstStruck wsX0_firstStruck) := goodIn_app (goodIn_of _ (by decide +kernel)) ggX11_strikes_X0_firstStruck
set_option maxHeartbeats 4000000 in
set_option maxRecDepth 100000 in
theorem s_X11_strikes (l : Launch) (D : va_G) (ca : Nat → ClassId) (sz : Nat) (h0 : Nat) (a1 : Int32) (a2 : Int32) (h0_tape : Nat) (h0_law : Nat) (h0_standing : Nat) (h0_saying : Nat) (h0_courtReader : Nat) (h0_bookReader : Nat) (h0_sentenceReader : Nat) (h0_bench : Nat) (h0_whatIf : Nat) (h0_history : Nat) (h0_images : Nat) (h0_latest : Nat) (h0_latestBook : Nat) (h0_latestRoll : Nat) (h0_rollLength : Int32) (h0_law_jurors : Int32) (h0_law_floors : Int32) (h0_law_cases : Int32) (h0_law_one : Int32) (h0_law_dent : Int32) (h0_law_seated : Int32) (h0_law_jurorName : Nat) (h0_law_floorName : Nat) (h0_law_caseName : Nat) (h0_law_pitch : Nat) (h0_law_length : Nat) (h0_law_hands : Nat) (h0_law_tune : Nat) (h0_law_dull : Nat) (h0_law_caseFloor : Nat) (h0_law_tuned : Nat) (h0_standing_day : Int32) (h0_standing_sits : Int32) (h0_standing_holds : Int32) (h0_standing_trials : Int32) (h0_standing_triedToday : Int32) (h0_standing_dents : Nat) (h0_standing_drops : Nat) (h0_standing_how : Nat) (h0_standing_triedOn : Nat) (h0_standing_dropped : Nat) (h0_standing_heldOn : Nat) (F_h0_law_caseFloor : Nat → Int32) (h0_bench_frees : Nat) (h0_bench_low : Nat) (h0_bench_high : Nat) (h0_bench_letGoWeight : Nat) (h0_bench_holdWeight : Nat) (h0_bench_heardWith : Nat) (F_h0_law_tuned : Nat → Int32) (F_h0_law_pitch : Nat → Int32) (F_h0_law_tune : Nat → Int32) (F_h0_standing_dents : Nat → Int32) (F_h0_bench_low : Nat → Int32) (F_h0_bench_high : Nat → Int32) (F_h0_bench_frees : Nat → Int32) (F_h0_latest : Nat → Int32) (i_h0_rollLength : rg 0 40 h0_rollLength) (i_h0_law_jurors : rg 0 10 h0_law_jurors) (i_h0_law_floors : rg 0 4 h0_law_floors) (i_h0_law_cases : rg 0 5 h0_law_cases) (i_h0_law_seated : rg 0 1023 h0_law_seated) (i_h0_standing_sits : rg 0 1023 h0_standing_sits) (i_h0_standing_triedToday : rg 0 1 h0_standing_triedToday) (s_h0_law_caseFloor_0 : sg 0 5 0 3 F_h0_law_caseFloor) : oMet l yX11_strikes wsX11_strikes ({ frames := 3, cells := 0, slots := 0, locals := 72 } : Room) [.ref h0, .int a1, .int a2] D ca sz [(h0, .inr (10, [.ref h0_tape, .ref h0_law, .ref h0_standing, .ref h0_saying, .ref h0_courtReader, .ref h0_bookReader, .ref h0_sentenceReader, .ref h0_bench, .ref h0_whatIf, .ref h0_history, .ref h0_images, .ref h0_latest, .ref h0_latestBook, .ref h0_latestRoll, .int h0_rollLength])), (h0_law, .inr (5, [.int h0_law_jurors, .int h0_law_floors, .int h0_law_cases, .int h0_law_one, .int h0_law_dent, .int h0_law_seated, .ref h0_law_jurorName, .ref h0_law_floorName, .ref h0_law_caseName, .ref h0_law_pitch, .ref h0_law_length, .ref h0_law_hands, .ref h0_law_tune, .ref h0_law_dull, .ref h0_law_caseFloor, .ref h0_law_tuned])), (h0_standing, .inr (9, [.int h0_standing_day, .int h0_standing_sits, .int h0_standing_holds, .int h0_standing_trials, .int h0_standing_triedToday, .ref h0_standing_dents, .ref h0_standing_drops, .ref h0_standing_how, .ref h0_standing_triedOn, .ref h0_standing_dropped, .ref h0_standing_heldOn])), (aI ca h0_law_caseFloor 5 F_h0_law_caseFloor), (h0_bench, .inr (0, [.ref h0_bench_frees, .ref h0_bench_low, .ref h0_bench_high, .ref h0_bench_letGoWeight, .ref h0_bench_holdWeight, .ref h0_bench_heardWith])), (aI ca h0_law_tuned 40 F_h0_law_tuned), (aI ca h0_law_pitch 10 F_h0_law_pitch), (aI ca h0_law_tune 4 F_h0_law_tune), (aI ca h0_standing_dents 10 F_h0_standing_dents), (aI ca h0_bench_low 1024 F_h0_bench_low), (aI ca h0_bench_high 1024 F_h0_bench_high), (aZ ca h0_bench_frees 1024 F_h0_bench_frees), (aI ca h0_latest 7 F_h0_latest)] (oQi D (fun (r : Int32) (u : (Nat → Int32) × (Nat → Int32) × (Nat → Int32) × (Nat → Int32)) => (rg (-1) 1 r) ∧ (eqs 0 5 u.2.2.2 F_h0_latest) ∧ (eqs 6 7 u.2.2.2 F_h0_latest)) (fun (u : (Nat → Int32) × (Nat → Int32) × (Nat → Int32) × (Nat → Int32)) => [(h0, .inr (10, [.ref h0_tape, .ref h0_law, .ref h0_standing, .ref h0_saying, .ref h0_courtReader, .ref h0_bookReader, .ref h0_sentenceReader, .ref h0_bench, .ref h0_whatIf, .ref h0_history, .ref h0_images, .ref h0_latest, .ref h0_latestBook, .ref h0_latestRoll, .int h0_rollLength])), (h0_law, .inr (5, [.int h0_law_jurors, .int h0_law_floors, .int h0_law_cases, .int h0_law_one, .int h0_law_dent, .int h0_law_seated, .ref h0_law_jurorName, .ref h0_law_floorName, .ref h0_law_caseName, .ref h0_law_pitch, .ref h0_law_length, .ref h0_law_hands, .ref h0_law_tune, .ref h0_law_dull, .ref h0_law_caseFloor, .ref h0_law_tuned])), (h0_standing, .inr (9, [.int h0_standing_day, .int h0_standing_sits, .int h0_standing_holds, .int h0_standing_trials, .int h0_standing_triedToday, .ref h0_standing_dents, .ref h0_standing_drops, .ref h0_standing_how, .ref h0_standing_triedOn, .ref h0_standing_dropped, .ref h0_standing_heldOn])), (aI ca h0_law_caseFloor 5 F_h0_law_caseFloor), (h0_bench, .inr (0, [.ref h0_bench_frees, .ref h0_bench_low, .ref h0_bench_high, .ref h0_bench_letGoWeight, .ref h0_bench_holdWeight, .ref h0_bench_heardWith])), (aI ca h0_law_tuned 40 F_h0_law_tuned), (aI ca h0_law_pitch 10 F_h0_law_pitch), (aI ca h0_law_tune 4 F_h0_law_tune), (aI ca h0_standing_dents 10 F_h0_standing_dents), (aI ca h0_bench_low 1024 u.1), (aI ca h0_bench_high 1024 u.2.1), (aZ ca h0_bench_frees 1024 u.2.2.1), (aI ca h0_latest 7 u.2.2.2)])) 0 0 := by
  refine oM (cc := cX11_strikes) (maxL := 3) (ret := (some .int)) (by decide) rfl (Nat.le_of_ble_eq_true rfl) [(0, .ref h0), (1, .int a1), (2, .int a2)] rfl ?_
  intro p e s m below meth c A H locs ls hx hb hr hml hts hown hlocks hin hK hP hD hA hS hl
  have hown : s.vm.findClass RX11 = some m.cls := hown
  have k1 := hts (.fieldLink RX11 26 "LidCourt" "standing" "LLidCourt$Standing;") (by decide +kernel)
  have k2 : ∀ w ∈ wsX110, w ∈ wsX11_strikes := fun _ h => List.mem_cons_of_mem _ (List.mem_append_left _ (List.mem_append_left _ (List.mem_append_left _ (List.mem_append_right _ h))))
  have k3 := hts (.fieldLink RX11 152 "LidCourt$Standing" "sits" "I") (by decide +kernel)
  have k4 : ∀ w ∈ wsX90, w ∈ wsX11_strikes := fun _ h => List.mem_cons_of_mem _ (List.mem_append_left _ (List.mem_append_left _ (List.mem_append_right _ h)))
  have k5 := hts (.fieldLink RX11 63 "LidCourt" "bench" "LLidCourt$Bench;") (by decide +kernel)
  have k6 := hts (.fieldLink RX11 19 "LidCourt" "law" "LLidCourt$Law;") (by decide +kernel)
  have k7 := hts (.fieldLink RX11 167 "LidCourt$Law" "caseFloor" "[I") (by decide +kernel)
  have k8 : ∀ w ∈ wsX50, w ∈ wsX11_strikes := fun _ h => List.mem_cons_of_mem _ (List.mem_append_left _ (List.mem_append_right _ h))
  have k9 := hts (.fieldLink RX11 230 "LidCourt$Law" "one" "I") (by decide +kernel)
  have k10 := hts (.fieldLink RX11 83 "LidCourt" "latest" "[I") (by decide +kernel)
  have k11 := hts (.fieldLink RX11 295 "LidCourt$Bench" "frees" "[Z") (by decide +kernel)
  have k12 : ∀ w ∈ wsX00, w ∈ wsX11_strikes := fun _ h => List.mem_cons_of_mem _ (List.mem_append_right _ h)
  refine lv_aload_n hx hb dX11_strikes_0 rfl (lv_at hl 0 rfl) ?_
  refine lv_iload_n hx hb dX11_strikes_1 rfl (lv_at hl 1 rfl) ?_
  refine oC_i (Wc := [(h0, .inr (10, [.ref h0_tape, .ref h0_law, .ref h0_standing, .ref h0_saying, .ref h0_courtReader, .ref h0_bookReader, .ref h0_sentenceReader, .ref h0_bench, .ref h0_whatIf, .ref h0_history, .ref h0_images, .ref h0_latest, .ref h0_latestBook, .ref h0_latestRoll, .int h0_rollLength])), (h0_law, .inr (5, [.int h0_law_jurors, .int h0_law_floors, .int h0_law_cases, .int h0_law_one, .int h0_law_dent, .int h0_law_seated, .ref h0_law_jurorName, .ref h0_law_floorName, .ref h0_law_caseName, .ref h0_law_pitch, .ref h0_law_length, .ref h0_law_hands, .ref h0_law_tune, .ref h0_law_dull, .ref h0_law_caseFloor, .ref h0_law_tuned]))]) (Wr := [(h0_standing, .inr (9, [.int h0_standing_day, .int h0_standing_sits, .int h0_standing_holds, .int h0_standing_trials, .int h0_standing_triedToday, .ref h0_standing_dents, .ref h0_standing_drops, .ref h0_standing_how, .ref h0_standing_triedOn, .ref h0_standing_dropped, .ref h0_standing_heldOn])), (aI ca h0_law_caseFloor 5 F_h0_law_caseFloor), (h0_bench, .inr (0, [.ref h0_bench_frees, .ref h0_bench_low, .ref h0_bench_high, .ref h0_bench_letGoWeight, .ref h0_bench_holdWeight, .ref h0_bench_heardWith])), (aI ca h0_law_tuned 40 F_h0_law_tuned), (aI ca h0_law_pitch 10 F_h0_law_pitch), (aI ca h0_law_tune 4 F_h0_law_tune), (aI ca h0_standing_dents 10 F_h0_standing_dents), (aI ca h0_bench_low 1024 F_h0_bench_low), (aI ca h0_bench_high 1024 F_h0_bench_high), (aZ ca h0_bench_frees 1024 F_h0_bench_frees), (aI ca h0_latest 7 F_h0_latest)]) (va_runV (As := [.int a1]) (rest := []) ⟨hx, hb, hml, hown, hts⟩ (s_X11_isCase l D ca H.size h0 a1 h0_tape h0_law h0_standing h0_saying h0_courtReader h0_bookReader h0_sentenceReader h0_bench h0_whatIf h0_history h0_images h0_latest h0_latestBook h0_latestRoll h0_rollLength h0_law_jurors h0_law_floors h0_law_cases h0_law_one h0_law_dent h0_law_seated h0_law_jurorName h0_law_floorName h0_law_caseName h0_law_pitch h0_law_length h0_law_hands h0_law_tune h0_law_dull h0_law_caseFloor h0_law_tuned i_h0_rollLength i_h0_law_jurors i_h0_law_floors i_h0_law_cases i_h0_law_seated) (cwV 1 hts gX11_strikes_X11_isCase rfl rfl rfl (by decide +kernel) ⟨Nat.le_of_ble_eq_true rfl, Nat.le_of_ble_eq_true rfl⟩) (oPV (C := RX11) hK hP hD [0, 1] rfl (by decide) 0 rfl (ci := 10) rfl rfl) rfl rfl hl.1 rfl (lv_room (Nat.le_of_ble_eq_true rfl)) dX11_strikes_2 ⟨Nat.le_of_ble_eq_true rfl, Nat.le_of_ble_eq_true rfl⟩) hP hD hS hA [0, 1] [2, 3, 4, 5, 6, 7, 8, 9, 10, 11, 12] rfl rfl (by decide) (by decide) (fun r_47 u H locs w_48 hP hD hS => ?_)
  obtain ⟨⟩ := u
  have hP : va_P D vwCl [(h0_standing, .inr (9, [.int h0_standing_day, .int h0_standing_sits, .int h0_standing_holds, .int h0_standing_trials, .int h0_standing_triedToday, .ref h0_standing_dents, .ref h0_standing_drops, .ref h0_standing_how, .ref h0_standing_triedOn, .ref h0_standing_dropped, .ref h0_standing_heldOn])), (aI ca h0_law_caseFloor 5 F_h0_law_caseFloor), (h0_bench, .inr (0, [.ref h0_bench_frees, .ref h0_bench_low, .ref h0_bench_high, .ref h0_bench_letGoWeight, .ref h0_bench_holdWeight, .ref h0_bench_heardWith])), (aI ca h0_law_tuned 40 F_h0_law_tuned), (aI ca h0_law_pitch 10 F_h0_law_pitch), (aI ca h0_law_tune 4 F_h0_law_tune), (aI ca h0_standing_dents 10 F_h0_standing_dents), (aI ca h0_bench_low 1024 F_h0_bench_low), (aI ca h0_bench_high 1024 F_h0_bench_high), (aZ ca h0_bench_frees 1024 F_h0_bench_frees), (aI ca h0_latest 7 F_h0_latest), (h0, .inr (10, [.ref h0_tape, .ref h0_law, .ref h0_standing, .ref h0_saying, .ref h0_courtReader, .ref h0_bookReader, .ref h0_sentenceReader, .ref h0_bench, .ref h0_whatIf, .ref h0_history, .ref h0_images, .ref h0_latest, .ref h0_latestBook, .ref h0_latestRoll, .int h0_rollLength])), (h0_law, .inr (5, [.int h0_law_jurors, .int h0_law_floors, .int h0_law_cases, .int h0_law_one, .int h0_law_dent, .int h0_law_seated, .ref h0_law_jurorName, .ref h0_law_floorName, .ref h0_law_caseName, .ref h0_law_pitch, .ref h0_law_length, .ref h0_law_hands, .ref h0_law_tune, .ref h0_law_dull, .ref h0_law_caseFloor, .ref h0_law_tuned]))] H := hP
  have hD : va_D A [(h0_standing, .inr (9, [.int h0_standing_day, .int h0_standing_sits, .int h0_standing_holds, .int h0_standing_trials, .int h0_standing_triedToday, .ref h0_standing_dents, .ref h0_standing_drops, .ref h0_standing_how, .ref h0_standing_triedOn, .ref h0_standing_dropped, .ref h0_standing_heldOn])), (aI ca h0_law_caseFloor 5 F_h0_law_caseFloor), (h0_bench, .inr (0, [.ref h0_bench_frees, .ref h0_bench_low, .ref h0_bench_high, .ref h0_bench_letGoWeight, .ref h0_bench_holdWeight, .ref h0_bench_heardWith])), (aI ca h0_law_tuned 40 F_h0_law_tuned), (aI ca h0_law_pitch 10 F_h0_law_pitch), (aI ca h0_law_tune 4 F_h0_law_tune), (aI ca h0_standing_dents 10 F_h0_standing_dents), (aI ca h0_bench_low 1024 F_h0_bench_low), (aI ca h0_bench_high 1024 F_h0_bench_high), (aZ ca h0_bench_frees 1024 F_h0_bench_frees), (aI ca h0_latest 7 F_h0_latest), (h0, .inr (10, [.ref h0_tape, .ref h0_law, .ref h0_standing, .ref h0_saying, .ref h0_courtReader, .ref h0_bookReader, .ref h0_sentenceReader, .ref h0_bench, .ref h0_whatIf, .ref h0_history, .ref h0_images, .ref h0_latest, .ref h0_latestBook, .ref h0_latestRoll, .int h0_rollLength])), (h0_law, .inr (5, [.int h0_law_jurors, .int h0_law_floors, .int h0_law_cases, .int h0_law_one, .int h0_law_dent, .int h0_law_seated, .ref h0_law_jurorName, .ref h0_law_floorName, .ref h0_law_caseName, .ref h0_law_pitch, .ref h0_law_length, .ref h0_law_hands, .ref h0_law_tune, .ref h0_law_dull, .ref h0_law_caseFloor, .ref h0_law_tuned]))] := hD
  try dsimp only at w_48
  rcases w_48 with h_49 | ⟨h_50, h_51, h_52, h_53⟩
  · skip
    subst h_49
    refine lv_if_eq (tgt := 27) hx hb dX11_strikes_5 (by decide) (fun _ => ?_) (fun c => absurd (by decide) c)
    refine lv_iconst (v := (-1)) hx hb dX11_strikes_27 (by decide) ?_
    exact oE_i hx hb hr rfl hlocks hP hD hS (F_h0_bench_low, F_h0_bench_high, F_h0_bench_frees, F_h0_latest) [11, 12, 0, 1, 2, 3, 4, 5, 6, 7, 8, 9, 10] rfl (by decide) ⟨(⟨by decide, by decide⟩ : rg (-1) 1 ((-1) : Int32)), (eqs_w (a' := 0) (b' := 5) (eqs_rf (a := 0) (b := 7) F_h0_latest) (by decide) (by decide)), (eqs_w (a' := 6) (b' := 7) (eqs_rf (a := 0) (b := 7) F_h0_latest) (by decide) (by decide))⟩ (Nat.le_of_ble_eq_true rfl) (Nat.le_of_ble_eq_true rfl) dX11_strikes_28
  · skip
    subst h_50
    refine lv_if_eq (tgt := 27) hx hb dX11_strikes_5 (by decide) (fun c => absurd c (by decide)) (fun _ => ?_)
    refine lv_iload_n hx hb dX11_strikes_8 rfl (lv_at hl 2 rfl) ?_
    refine lv_iconst (v := 1) hx hb dX11_strikes_9 (by decide) ?_
    refine lv_icmp_lt (tgt := 27) hx hb dX11_strikes_10 (by decide) (fun c_54 => ?_) (fun c_54 => ?_)
    · skip
      have o_55 : rl 1 a2 1 := rl_lt c_54
      have h_56 : rg (-2147483648) 0 a2 := rl_x o_55 (rga a2) (⟨by decide, by decide⟩ : rg 1 1 (1 : Int32)) (by decide) (by decide)
      refine lv_iconst (v := (-1)) hx hb dX11_strikes_27 (by decide) ?_
      exact oE_i hx hb hr rfl hlocks hP hD hS (F_h0_bench_low, F_h0_bench_high, F_h0_bench_frees, F_h0_latest) [11, 12, 0, 1, 2, 3, 4, 5, 6, 7, 8, 9, 10] rfl (by decide) ⟨(⟨by decide, by decide⟩ : rg (-1) 1 ((-1) : Int32)), (eqs_w (a' := 0) (b' := 5) (eqs_rf (a := 0) (b := 7) F_h0_latest) (by decide) (by decide)), (eqs_w (a' := 6) (b' := 7) (eqs_rf (a := 0) (b := 7) F_h0_latest) (by decide) (by decide))⟩ (Nat.le_of_ble_eq_true rfl) (Nat.le_of_ble_eq_true rfl) dX11_strikes_28
    · skip
      have o_57 : rl 0 1 a2 := rl_nlt c_54
      have h_58 : rg 1 2147483647 a2 := rl_y o_57 (⟨by decide, by decide⟩ : rg 1 1 (1 : Int32)) (rga a2) (by decide) (by decide)
      refine lv_iload_n hx hb dX11_strikes_13 rfl (lv_at hl 2 rfl) ?_
      refine lv_aload_n hx hb dX11_strikes_14 rfl (lv_at hl 0 rfl) ?_
      refine va_get (D := D) (ci := 10) (v := .ref h0_standing) (C := RX11) (T := TX11) (N := 15) hx hb hts k2 hown hK.1 hP 11 rfl rfl 2 (by decide) k1 (fun _ h9 => h9) rfl dX11_strikes_15 ?_
      refine va_get (D := D) (ci := 9) (v := .int h0_standing_sits) (C := RX9) (T := TX9) (N := 11) hx hb hts k4 hown hK.1 hP 0 rfl rfl 1 (by decide) k3 (fun _ h9 => h9) rfl dX11_strikes_18 ?_
      refine oC_i (Wc := []) (Wr := [(h0_standing, .inr (9, [.int h0_standing_day, .int h0_standing_sits, .int h0_standing_holds, .int h0_standing_trials, .int h0_standing_triedToday, .ref h0_standing_dents, .ref h0_standing_drops, .ref h0_standing_how, .ref h0_standing_triedOn, .ref h0_standing_dropped, .ref h0_standing_heldOn])), (aI ca h0_law_caseFloor 5 F_h0_law_caseFloor), (h0_bench, .inr (0, [.ref h0_bench_frees, .ref h0_bench_low, .ref h0_bench_high, .ref h0_bench_letGoWeight, .ref h0_bench_holdWeight, .ref h0_bench_heardWith])), (aI ca h0_law_tuned 40 F_h0_law_tuned), (aI ca h0_law_pitch 10 F_h0_law_pitch), (aI ca h0_law_tune 4 F_h0_law_tune), (aI ca h0_standing_dents 10 F_h0_standing_dents), (aI ca h0_bench_low 1024 F_h0_bench_low), (aI ca h0_bench_high 1024 F_h0_bench_high), (aZ ca h0_bench_frees 1024 F_h0_bench_frees), (aI ca h0_latest 7 F_h0_latest), (h0, .inr (10, [.ref h0_tape, .ref h0_law, .ref h0_standing, .ref h0_saying, .ref h0_courtReader, .ref h0_bookReader, .ref h0_sentenceReader, .ref h0_bench, .ref h0_whatIf, .ref h0_history, .ref h0_images, .ref h0_latest, .ref h0_latestBook, .ref h0_latestRoll, .int h0_rollLength])), (h0_law, .inr (5, [.int h0_law_jurors, .int h0_law_floors, .int h0_law_cases, .int h0_law_one, .int h0_law_dent, .int h0_law_seated, .ref h0_law_jurorName, .ref h0_law_floorName, .ref h0_law_caseName, .ref h0_law_pitch, .ref h0_law_length, .ref h0_law_hands, .ref h0_law_tune, .ref h0_law_dull, .ref h0_law_caseFloor, .ref h0_law_tuned]))]) (va_runS (As := [.int h0_standing_sits]) (rest := [.int a2]) ⟨hx, hb, hml, hown, hts⟩ (s_J6_bitCount_0f7a4 l D ca H.size h0_standing_sits) (va_cwS 1 hts gX11_strikes_J6_bitCount_0f7a4 rfl rfl rfl (by decide +kernel) ⟨Nat.le_of_ble_eq_true rfl, Nat.le_of_ble_eq_true rfl⟩) (oPS hK hP hD [] rfl (by decide)) rfl rfl hl.1 rfl (lv_room (Nat.le_of_ble_eq_true rfl)) dX11_strikes_21 ⟨Nat.le_of_ble_eq_true rfl, Nat.le_of_ble_eq_true rfl⟩) hP hD hS hA [] [0, 1, 2, 3, 4, 5, 6, 7, 8, 9, 10, 11, 12] rfl rfl (by decide) (by decide) (fun r_59 u H locs w_60 hP hD hS => ?_)
      obtain ⟨⟩ := u
      have hP : va_P D vwCl [(h0_standing, .inr (9, [.int h0_standing_day, .int h0_standing_sits, .int h0_standing_holds, .int h0_standing_trials, .int h0_standing_triedToday, .ref h0_standing_dents, .ref h0_standing_drops, .ref h0_standing_how, .ref h0_standing_triedOn, .ref h0_standing_dropped, .ref h0_standing_heldOn])), (aI ca h0_law_caseFloor 5 F_h0_law_caseFloor), (h0_bench, .inr (0, [.ref h0_bench_frees, .ref h0_bench_low, .ref h0_bench_high, .ref h0_bench_letGoWeight, .ref h0_bench_holdWeight, .ref h0_bench_heardWith])), (aI ca h0_law_tuned 40 F_h0_law_tuned), (aI ca h0_law_pitch 10 F_h0_law_pitch), (aI ca h0_law_tune 4 F_h0_law_tune), (aI ca h0_standing_dents 10 F_h0_standing_dents), (aI ca h0_bench_low 1024 F_h0_bench_low), (aI ca h0_bench_high 1024 F_h0_bench_high), (aZ ca h0_bench_frees 1024 F_h0_bench_frees), (aI ca h0_latest 7 F_h0_latest), (h0, .inr (10, [.ref h0_tape, .ref h0_law, .ref h0_standing, .ref h0_saying, .ref h0_courtReader, .ref h0_bookReader, .ref h0_sentenceReader, .ref h0_bench, .ref h0_whatIf, .ref h0_history, .ref h0_images, .ref h0_latest, .ref h0_latestBook, .ref h0_latestRoll, .int h0_rollLength])), (h0_law, .inr (5, [.int h0_law_jurors, .int h0_law_floors, .int h0_law_cases, .int h0_law_one, .int h0_law_dent, .int h0_law_seated, .ref h0_law_jurorName, .ref h0_law_floorName, .ref h0_law_caseName, .ref h0_law_pitch, .ref h0_law_length, .ref h0_law_hands, .ref h0_law_tune, .ref h0_law_dull, .ref h0_law_caseFloor, .ref h0_law_tuned]))] H := hP
      have hD : va_D A [(h0_standing, .inr (9, [.int h0_standing_day, .int h0_standing_sits, .int h0_standing_holds, .int h0_standing_trials, .int h0_standing_triedToday, .ref h0_standing_dents, .ref h0_standing_drops, .ref h0_standing_how, .ref h0_standing_triedOn, .ref h0_standing_dropped, .ref h0_standing_heldOn])), (aI ca h0_law_caseFloor 5 F_h0_law_caseFloor), (h0_bench, .inr (0, [.ref h0_bench_frees, .ref h0_bench_low, .ref h0_bench_high, .ref h0_bench_letGoWeight, .ref h0_bench_holdWeight, .ref h0_bench_heardWith])), (aI ca h0_law_tuned 40 F_h0_law_tuned), (aI ca h0_law_pitch 10 F_h0_law_pitch), (aI ca h0_law_tune 4 F_h0_law_tune), (aI ca h0_standing_dents 10 F_h0_standing_dents), (aI ca h0_bench_low 1024 F_h0_bench_low), (aI ca h0_bench_high 1024 F_h0_bench_high), (aZ ca h0_bench_frees 1024 F_h0_bench_frees), (aI ca h0_latest 7 F_h0_latest), (h0, .inr (10, [.ref h0_tape, .ref h0_law, .ref h0_standing, .ref h0_saying, .ref h0_courtReader, .ref h0_bookReader, .ref h0_sentenceReader, .ref h0_bench, .ref h0_whatIf, .ref h0_history, .ref h0_images, .ref h0_latest, .ref h0_latestBook, .ref h0_latestRoll, .int h0_rollLength])), (h0_law, .inr (5, [.int h0_law_jurors, .int h0_law_floors, .int h0_law_cases, .int h0_law_one, .int h0_law_dent, .int h0_law_seated, .ref h0_law_jurorName, .ref h0_law_floorName, .ref h0_law_caseName, .ref h0_law_pitch, .ref h0_law_length, .ref h0_law_hands, .ref h0_law_tune, .ref h0_law_dull, .ref h0_law_caseFloor, .ref h0_law_tuned]))] := hD
      try dsimp only at w_60
      have h_61 := w_60
      refine lv_icmp_lt (tgt := 29) hx hb dX11_strikes_24 (by decide) (fun c_62 => ?_) (fun c_62 => ?_)
      · skip
        have o_63 : rl 1 a2 r_59 := rl_lt c_62
        have h_64 : rg 1 62 a2 := rl_x o_63 h_58 h_61 (by decide) (by decide)
        have h_65 : rg 2 63 r_59 := rl_y o_63 h_58 h_61 (by decide) (by decide)
        refine lv_aload_n hx hb dX11_strikes_29 rfl (lv_at hl 0 rfl) ?_
        refine va_get (D := D) (ci := 10) (v := .ref h0_bench) (C := RX11) (T := TX11) (N := 15) hx hb hts k2 hown hK.1 hP 11 rfl rfl 7 (by decide) k5 (fun _ h9 => h9) rfl dX11_strikes_30 ?_
        refine lv_aload_n hx hb dX11_strikes_33 rfl (lv_at hl 0 rfl) ?_
        refine va_get (D := D) (ci := 10) (v := .ref h0_law) (C := RX11) (T := TX11) (N := 15) hx hb hts k2 hown hK.1 hP 11 rfl rfl 1 (by decide) k6 (fun _ h9 => h9) rfl dX11_strikes_34 ?_
        refine lv_aload_n hx hb dX11_strikes_37 rfl (lv_at hl 0 rfl) ?_
        refine va_get (D := D) (ci := 10) (v := .ref h0_standing) (C := RX11) (T := TX11) (N := 15) hx hb hts k2 hown hK.1 hP 11 rfl rfl 2 (by decide) k1 (fun _ h9 => h9) rfl dX11_strikes_38 ?_
        refine lv_aload_n hx hb dX11_strikes_41 rfl (lv_at hl 0 rfl) ?_
        refine va_get (D := D) (ci := 10) (v := .ref h0_law) (C := RX11) (T := TX11) (N := 15) hx hb hts k2 hown hK.1 hP 11 rfl rfl 1 (by decide) k6 (fun _ h9 => h9) rfl dX11_strikes_42 ?_
        refine va_get (D := D) (ci := 5) (v := .ref h0_law_caseFloor) (C := RX5) (T := TX5) (N := 16) hx hb hts k8 hown hK.1 hP 12 rfl rfl 14 (by decide) k7 (fun _ h9 => h9) rfl dX11_strikes_45 ?_
        refine lv_iload_n hx hb dX11_strikes_48 rfl (lv_at hl 1 rfl) ?_
        refine va_iald hx hb hK.1 hP 1 0 rfl rfl (rg_in h_51 (by decide) (by decide)) dX11_strikes_49 ?_
        refine lv_topi (fun x_66 ex_66 => ?_)
        have h_67 : rg 0 3 x_66 := by rw [ex_66]; exact sg_at s_h0_law_caseFloor_0 h_51 (by decide) (by decide) (by decide)
        refine oC_v (Wc := [(h0_bench, .inr (0, [.ref h0_bench_frees, .ref h0_bench_low, .ref h0_bench_high, .ref h0_bench_letGoWeight, .ref h0_bench_holdWeight, .ref h0_bench_heardWith])), (h0_law, .inr (5, [.int h0_law_jurors, .int h0_law_floors, .int h0_law_cases, .int h0_law_one, .int h0_law_dent, .int h0_law_seated, .ref h0_law_jurorName, .ref h0_law_floorName, .ref h0_law_caseName, .ref h0_law_pitch, .ref h0_law_length, .ref h0_law_hands, .ref h0_law_tune, .ref h0_law_dull, .ref h0_law_caseFloor, .ref h0_law_tuned])), (h0_standing, .inr (9, [.int h0_standing_day, .int h0_standing_sits, .int h0_standing_holds, .int h0_standing_trials, .int h0_standing_triedToday, .ref h0_standing_dents, .ref h0_standing_drops, .ref h0_standing_how, .ref h0_standing_triedOn, .ref h0_standing_dropped, .ref h0_standing_heldOn])), (aI ca h0_law_tuned 40 F_h0_law_tuned), (aI ca h0_law_pitch 10 F_h0_law_pitch), (aI ca h0_law_tune 4 F_h0_law_tune), (aI ca h0_standing_dents 10 F_h0_standing_dents), (aI ca h0_bench_low 1024 F_h0_bench_low), (aI ca h0_bench_high 1024 F_h0_bench_high)]) (Wr := [(aI ca h0_law_caseFloor 5 F_h0_law_caseFloor), (aZ ca h0_bench_frees 1024 F_h0_bench_frees), (aI ca h0_latest 7 F_h0_latest), (h0, .inr (10, [.ref h0_tape, .ref h0_law, .ref h0_standing, .ref h0_saying, .ref h0_courtReader, .ref h0_bookReader, .ref h0_sentenceReader, .ref h0_bench, .ref h0_whatIf, .ref h0_history, .ref h0_images, .ref h0_latest, .ref h0_latestBook, .ref h0_latestRoll, .int h0_rollLength]))]) (va_runV (As := [.ref h0_law, .ref h0_standing, .int x_66]) (rest := []) ⟨hx, hb, hml, hown, hts⟩ (s_X0_measure l D ca H.size h0_bench h0_law h0_standing x_66 h0_bench_frees h0_bench_low h0_bench_high h0_bench_letGoWeight h0_bench_holdWeight h0_bench_heardWith h0_law_jurors h0_law_floors h0_law_cases h0_law_one h0_law_dent h0_law_seated h0_law_jurorName h0_law_floorName h0_law_caseName h0_law_pitch h0_law_length h0_law_hands h0_law_tune h0_law_dull h0_law_caseFloor h0_law_tuned h0_standing_day h0_standing_sits h0_standing_holds h0_standing_trials h0_standing_triedToday h0_standing_dents h0_standing_drops h0_standing_how h0_standing_triedOn h0_standing_dropped h0_standing_heldOn F_h0_law_tuned F_h0_law_pitch F_h0_law_tune F_h0_standing_dents F_h0_bench_low F_h0_bench_high h_67 i_h0_law_jurors i_h0_law_floors (rgw (lo := 0) (hi := 5) h_52 (by decide) (by decide)) i_h0_law_seated i_h0_standing_sits i_h0_standing_triedToday) (cwV 3 hts gX11_strikes_X0_measure rfl rfl rfl (by decide +kernel) ⟨Nat.le_of_ble_eq_true rfl, Nat.le_of_ble_eq_true rfl⟩) (oPV (C := RX0) hK hP hD [2, 12, 0, 3, 4, 5, 6, 7, 8] rfl (by decide) 0 rfl (ci := 0) rfl rfl) rfl rfl hl.1 rfl (lv_room (Nat.le_of_ble_eq_true rfl)) dX11_strikes_50 ⟨Nat.le_of_ble_eq_true rfl, Nat.le_of_ble_eq_true rfl⟩) hP hD hS hA [2, 12, 0, 3, 4, 5, 6, 7, 8] [1, 9, 10, 11] rfl rfl (by decide) (by decide) (fun u H locs w_69 hP hD hS => ?_)
        obtain ⟨u_70, u_71⟩ := u
        have hP : va_P D vwCl [(aI ca h0_law_caseFloor 5 F_h0_law_caseFloor), (aZ ca h0_bench_frees 1024 F_h0_bench_frees), (aI ca h0_latest 7 F_h0_latest), (h0, .inr (10, [.ref h0_tape, .ref h0_law, .ref h0_standing, .ref h0_saying, .ref h0_courtReader, .ref h0_bookReader, .ref h0_sentenceReader, .ref h0_bench, .ref h0_whatIf, .ref h0_history, .ref h0_images, .ref h0_latest, .ref h0_latestBook, .ref h0_latestRoll, .int h0_rollLength])), (h0_bench, .inr (0, [.ref h0_bench_frees, .ref h0_bench_low, .ref h0_bench_high, .ref h0_bench_letGoWeight, .ref h0_bench_holdWeight, .ref h0_bench_heardWith])), (h0_law, .inr (5, [.int h0_law_jurors, .int h0_law_floors, .int h0_law_cases, .int h0_law_one, .int h0_law_dent, .int h0_law_seated, .ref h0_law_jurorName, .ref h0_law_floorName, .ref h0_law_caseName, .ref h0_law_pitch, .ref h0_law_length, .ref h0_law_hands, .ref h0_law_tune, .ref h0_law_dull, .ref h0_law_caseFloor, .ref h0_law_tuned])), (h0_standing, .inr (9, [.int h0_standing_day, .int h0_standing_sits, .int h0_standing_holds, .int h0_standing_trials, .int h0_standing_triedToday, .ref h0_standing_dents, .ref h0_standing_drops, .ref h0_standing_how, .ref h0_standing_triedOn, .ref h0_standing_dropped, .ref h0_standing_heldOn])), (aI ca h0_law_tuned 40 F_h0_law_tuned), (aI ca h0_law_pitch 10 F_h0_law_pitch), (aI ca h0_law_tune 4 F_h0_law_tune), (aI ca h0_standing_dents 10 F_h0_standing_dents), (aI ca h0_bench_low 1024 u_70), (aI ca h0_bench_high 1024 u_71)] H := hP
        have hD : va_D A [(aI ca h0_law_caseFloor 5 F_h0_law_caseFloor), (aZ ca h0_bench_frees 1024 F_h0_bench_frees), (aI ca h0_latest 7 F_h0_latest), (h0, .inr (10, [.ref h0_tape, .ref h0_law, .ref h0_standing, .ref h0_saying, .ref h0_courtReader, .ref h0_bookReader, .ref h0_sentenceReader, .ref h0_bench, .ref h0_whatIf, .ref h0_history, .ref h0_images, .ref h0_latest, .ref h0_latestBook, .ref h0_latestRoll, .int h0_rollLength])), (h0_bench, .inr (0, [.ref h0_bench_frees, .ref h0_bench_low, .ref h0_bench_high, .ref h0_bench_letGoWeight, .ref h0_bench_holdWeight, .ref h0_bench_heardWith])), (h0_law, .inr (5, [.int h0_law_jurors, .int h0_law_floors, .int h0_law_cases, .int h0_law_one, .int h0_law_dent, .int h0_law_seated, .ref h0_law_jurorName, .ref h0_law_floorName, .ref h0_law_caseName, .ref h0_law_pitch, .ref h0_law_length, .ref h0_law_hands, .ref h0_law_tune, .ref h0_law_dull, .ref h0_law_caseFloor, .ref h0_law_tuned])), (h0_standing, .inr (9, [.int h0_standing_day, .int h0_standing_sits, .int h0_standing_holds, .int h0_standing_trials, .int h0_standing_triedToday, .ref h0_standing_dents, .ref h0_standing_drops, .ref h0_standing_how, .ref h0_standing_triedOn, .ref h0_standing_dropped, .ref h0_standing_heldOn])), (aI ca h0_law_tuned 40 F_h0_law_tuned), (aI ca h0_law_pitch 10 F_h0_law_pitch), (aI ca h0_law_tune 4 F_h0_law_tune), (aI ca h0_standing_dents 10 F_h0_standing_dents), (aI ca h0_bench_low 1024 u_70), (aI ca h0_bench_high 1024 u_71)] := hD
        try dsimp only at w_69
        obtain ⟨h_72, h_73⟩ := w_69
        have q_74 : eqs 0 1 u_70 F_h0_bench_low := eqs_tr h_72 (eqs_rf (a := 0) (b := 1024) F_h0_bench_low) (by decide) (by decide) (by decide) (by decide)
        have q_75 : eqs 0 1 u_71 F_h0_bench_high := eqs_tr h_73 (eqs_rf (a := 0) (b := 1024) F_h0_bench_high) (by decide) (by decide) (by decide) (by decide)
        refine lv_aload_n hx hb dX11_strikes_53 rfl (lv_at hl 0 rfl) ?_
        refine va_get (D := D) (ci := 10) (v := .ref h0_bench) (C := RX11) (T := TX11) (N := 15) hx hb hts k2 hown hK.1 hP 3 rfl rfl 7 (by decide) k5 (fun _ h9 => h9) rfl dX11_strikes_54 ?_
        refine lv_aload_n hx hb dX11_strikes_57 rfl (lv_at hl 0 rfl) ?_
        refine va_get (D := D) (ci := 10) (v := .ref h0_standing) (C := RX11) (T := TX11) (N := 15) hx hb hts k2 hown hK.1 hP 3 rfl rfl 2 (by decide) k1 (fun _ h9 => h9) rfl dX11_strikes_58 ?_
        refine va_get (D := D) (ci := 9) (v := .int h0_standing_sits) (C := RX9) (T := TX9) (N := 11) hx hb hts k4 hown hK.1 hP 6 rfl rfl 1 (by decide) k3 (fun _ h9 => h9) rfl dX11_strikes_61 ?_
        refine lv_iload_n hx hb dX11_strikes_64 rfl (lv_at hl 2 rfl) ?_
        refine lv_aload_n hx hb dX11_strikes_65 rfl (lv_at hl 0 rfl) ?_
        refine va_get (D := D) (ci := 10) (v := .ref h0_law) (C := RX11) (T := TX11) (N := 15) hx hb hts k2 hown hK.1 hP 3 rfl rfl 1 (by decide) k6 (fun _ h9 => h9) rfl dX11_strikes_66 ?_
        refine va_get (D := D) (ci := 5) (v := .int h0_law_one) (C := RX5) (T := TX5) (N := 16) hx hb hts k8 hown hK.1 hP 5 rfl rfl 3 (by decide) k9 (fun _ h9 => h9) rfl dX11_strikes_69 ?_
        refine oC_v (Wc := [(h0_bench, .inr (0, [.ref h0_bench_frees, .ref h0_bench_low, .ref h0_bench_high, .ref h0_bench_letGoWeight, .ref h0_bench_holdWeight, .ref h0_bench_heardWith])), (aZ ca h0_bench_frees 1024 F_h0_bench_frees), (aI ca h0_bench_high 1024 u_71), (aI ca h0_bench_low 1024 u_70)]) (Wr := [(aI ca h0_law_caseFloor 5 F_h0_law_caseFloor), (aI ca h0_latest 7 F_h0_latest), (h0, .inr (10, [.ref h0_tape, .ref h0_law, .ref h0_standing, .ref h0_saying, .ref h0_courtReader, .ref h0_bookReader, .ref h0_sentenceReader, .ref h0_bench, .ref h0_whatIf, .ref h0_history, .ref h0_images, .ref h0_latest, .ref h0_latestBook, .ref h0_latestRoll, .int h0_rollLength])), (h0_law, .inr (5, [.int h0_law_jurors, .int h0_law_floors, .int h0_law_cases, .int h0_law_one, .int h0_law_dent, .int h0_law_seated, .ref h0_law_jurorName, .ref h0_law_floorName, .ref h0_law_caseName, .ref h0_law_pitch, .ref h0_law_length, .ref h0_law_hands, .ref h0_law_tune, .ref h0_law_dull, .ref h0_law_caseFloor, .ref h0_law_tuned])), (h0_standing, .inr (9, [.int h0_standing_day, .int h0_standing_sits, .int h0_standing_holds, .int h0_standing_trials, .int h0_standing_triedToday, .ref h0_standing_dents, .ref h0_standing_drops, .ref h0_standing_how, .ref h0_standing_triedOn, .ref h0_standing_dropped, .ref h0_standing_heldOn])), (aI ca h0_law_tuned 40 F_h0_law_tuned), (aI ca h0_law_pitch 10 F_h0_law_pitch), (aI ca h0_law_tune 4 F_h0_law_tune), (aI ca h0_standing_dents 10 F_h0_standing_dents)]) (va_runV (As := [.int h0_standing_sits, .int a2, .int h0_law_one]) (rest := []) ⟨hx, hb, hml, hown, hts⟩ (s_X0_judgeStrikes l D ca H.size h0_bench h0_standing_sits a2 h0_law_one h0_bench_frees h0_bench_low h0_bench_high h0_bench_letGoWeight h0_bench_holdWeight h0_bench_heardWith F_h0_bench_frees u_71 u_70 i_h0_standing_sits) (cwV 3 hts gX11_strikes_X0_judgeStrikes rfl rfl rfl (by decide +kernel) ⟨Nat.le_of_ble_eq_true rfl, Nat.le_of_ble_eq_true rfl⟩) (oPV (C := RX0) hK hP hD [4, 1, 12, 11] rfl (by decide) 0 rfl (ci := 0) rfl rfl) rfl rfl hl.1 rfl (lv_room (Nat.le_of_ble_eq_true rfl)) dX11_strikes_72 ⟨Nat.le_of_ble_eq_true rfl, Nat.le_of_ble_eq_true rfl⟩) hP hD hS hA [4, 1, 12, 11] [0, 2, 3, 5, 6, 7, 8, 9, 10] rfl rfl (by decide) (by decide) (fun u H locs w_77 hP hD hS => ?_)
        obtain ⟨u_78, rfl⟩ : ∃ z, z = u := ⟨_, rfl⟩
        have hP : va_P D vwCl [(aI ca h0_law_caseFloor 5 F_h0_law_caseFloor), (aI ca h0_latest 7 F_h0_latest), (h0, .inr (10, [.ref h0_tape, .ref h0_law, .ref h0_standing, .ref h0_saying, .ref h0_courtReader, .ref h0_bookReader, .ref h0_sentenceReader, .ref h0_bench, .ref h0_whatIf, .ref h0_history, .ref h0_images, .ref h0_latest, .ref h0_latestBook, .ref h0_latestRoll, .int h0_rollLength])), (h0_law, .inr (5, [.int h0_law_jurors, .int h0_law_floors, .int h0_law_cases, .int h0_law_one, .int h0_law_dent, .int h0_law_seated, .ref h0_law_jurorName, .ref h0_law_floorName, .ref h0_law_caseName, .ref h0_law_pitch, .ref h0_law_length, .ref h0_law_hands, .ref h0_law_tune, .ref h0_law_dull, .ref h0_law_caseFloor, .ref h0_law_tuned])), (h0_standing, .inr (9, [.int h0_standing_day, .int h0_standing_sits, .int h0_standing_holds, .int h0_standing_trials, .int h0_standing_triedToday, .ref h0_standing_dents, .ref h0_standing_drops, .ref h0_standing_how, .ref h0_standing_triedOn, .ref h0_standing_dropped, .ref h0_standing_heldOn])), (aI ca h0_law_tuned 40 F_h0_law_tuned), (aI ca h0_law_pitch 10 F_h0_law_pitch), (aI ca h0_law_tune 4 F_h0_law_tune), (aI ca h0_standing_dents 10 F_h0_standing_dents), (h0_bench, .inr (0, [.ref h0_bench_frees, .ref h0_bench_low, .ref h0_bench_high, .ref h0_bench_letGoWeight, .ref h0_bench_holdWeight, .ref h0_bench_heardWith])), (aZ ca h0_bench_frees 1024 u_78), (aI ca h0_bench_high 1024 u_71), (aI ca h0_bench_low 1024 u_70)] H := hP
        have hD : va_D A [(aI ca h0_law_caseFloor 5 F_h0_law_caseFloor), (aI ca h0_latest 7 F_h0_latest), (h0, .inr (10, [.ref h0_tape, .ref h0_law, .ref h0_standing, .ref h0_saying, .ref h0_courtReader, .ref h0_bookReader, .ref h0_sentenceReader, .ref h0_bench, .ref h0_whatIf, .ref h0_history, .ref h0_images, .ref h0_latest, .ref h0_latestBook, .ref h0_latestRoll, .int h0_rollLength])), (h0_law, .inr (5, [.int h0_law_jurors, .int h0_law_floors, .int h0_law_cases, .int h0_law_one, .int h0_law_dent, .int h0_law_seated, .ref h0_law_jurorName, .ref h0_law_floorName, .ref h0_law_caseName, .ref h0_law_pitch, .ref h0_law_length, .ref h0_law_hands, .ref h0_law_tune, .ref h0_law_dull, .ref h0_law_caseFloor, .ref h0_law_tuned])), (h0_standing, .inr (9, [.int h0_standing_day, .int h0_standing_sits, .int h0_standing_holds, .int h0_standing_trials, .int h0_standing_triedToday, .ref h0_standing_dents, .ref h0_standing_drops, .ref h0_standing_how, .ref h0_standing_triedOn, .ref h0_standing_dropped, .ref h0_standing_heldOn])), (aI ca h0_law_tuned 40 F_h0_law_tuned), (aI ca h0_law_pitch 10 F_h0_law_pitch), (aI ca h0_law_tune 4 F_h0_law_tune), (aI ca h0_standing_dents 10 F_h0_standing_dents), (h0_bench, .inr (0, [.ref h0_bench_frees, .ref h0_bench_low, .ref h0_bench_high, .ref h0_bench_letGoWeight, .ref h0_bench_holdWeight, .ref h0_bench_heardWith])), (aZ ca h0_bench_frees 1024 u_78), (aI ca h0_bench_high 1024 u_71), (aI ca h0_bench_low 1024 u_70)] := hD
        try dsimp only at w_77
        refine lv_aload_n hx hb dX11_strikes_75 rfl (lv_at hl 0 rfl) ?_
        refine va_get (D := D) (ci := 10) (v := .ref h0_latest) (C := RX11) (T := TX11) (N := 15) hx hb hts k2 hown hK.1 hP 2 rfl rfl 11 (by decide) k10 (fun _ h9 => h9) rfl dX11_strikes_76 ?_
        refine lv_iconst (v := 5) hx hb dX11_strikes_79 (by decide) ?_
        refine lv_aload_n hx hb dX11_strikes_80 rfl (lv_at hl 0 rfl) ?_
        refine va_get (D := D) (ci := 10) (v := .ref h0_bench) (C := RX11) (T := TX11) (N := 15) hx hb hts k2 hown hK.1 hP 2 rfl rfl 7 (by decide) k5 (fun _ h9 => h9) rfl dX11_strikes_81 ?_
        refine lv_aload_n hx hb dX11_strikes_84 rfl (lv_at hl 0 rfl) ?_
        refine va_get (D := D) (ci := 10) (v := .ref h0_standing) (C := RX11) (T := TX11) (N := 15) hx hb hts k2 hown hK.1 hP 2 rfl rfl 2 (by decide) k1 (fun _ h9 => h9) rfl dX11_strikes_85 ?_
        refine va_get (D := D) (ci := 9) (v := .int h0_standing_sits) (C := RX9) (T := TX9) (N := 11) hx hb hts k4 hown hK.1 hP 4 rfl rfl 1 (by decide) k3 (fun _ h9 => h9) rfl dX11_strikes_88 ?_
        refine oC_i (Wc := [(h0_bench, .inr (0, [.ref h0_bench_frees, .ref h0_bench_low, .ref h0_bench_high, .ref h0_bench_letGoWeight, .ref h0_bench_holdWeight, .ref h0_bench_heardWith])), (aZ ca h0_bench_frees 1024 u_78)]) (Wr := [(aI ca h0_law_caseFloor 5 F_h0_law_caseFloor), (aI ca h0_latest 7 F_h0_latest), (h0, .inr (10, [.ref h0_tape, .ref h0_law, .ref h0_standing, .ref h0_saying, .ref h0_courtReader, .ref h0_bookReader, .ref h0_sentenceReader, .ref h0_bench, .ref h0_whatIf, .ref h0_history, .ref h0_images, .ref h0_latest, .ref h0_latestBook, .ref h0_latestRoll, .int h0_rollLength])), (h0_law, .inr (5, [.int h0_law_jurors, .int h0_law_floors, .int h0_law_cases, .int h0_law_one, .int h0_law_dent, .int h0_law_seated, .ref h0_law_jurorName, .ref h0_law_floorName, .ref h0_law_caseName, .ref h0_law_pitch, .ref h0_law_length, .ref h0_law_hands, .ref h0_law_tune, .ref h0_law_dull, .ref h0_law_caseFloor, .ref h0_law_tuned])), (h0_standing, .inr (9, [.int h0_standing_day, .int h0_standing_sits, .int h0_standing_holds, .int h0_standing_trials, .int h0_standing_triedToday, .ref h0_standing_dents, .ref h0_standing_drops, .ref h0_standing_how, .ref h0_standing_triedOn, .ref h0_standing_dropped, .ref h0_standing_heldOn])), (aI ca h0_law_tuned 40 F_h0_law_tuned), (aI ca h0_law_pitch 10 F_h0_law_pitch), (aI ca h0_law_tune 4 F_h0_law_tune), (aI ca h0_standing_dents 10 F_h0_standing_dents), (aI ca h0_bench_high 1024 u_71), (aI ca h0_bench_low 1024 u_70)]) (va_runV (As := [.int h0_standing_sits]) (rest := [.int 5, .ref h0_latest]) ⟨hx, hb, hml, hown, hts⟩ (s_X0_firstStruck l D ca H.size h0_bench h0_standing_sits h0_bench_frees h0_bench_low h0_bench_high h0_bench_letGoWeight h0_bench_holdWeight h0_bench_heardWith u_78 i_h0_standing_sits) (cwV 1 hts gX11_strikes_X0_firstStruck rfl rfl rfl (by decide +kernel) ⟨Nat.le_of_ble_eq_true rfl, Nat.le_of_ble_eq_true rfl⟩) (oPV (C := RX0) hK hP hD [9, 10] rfl (by decide) 0 rfl (ci := 0) rfl rfl) rfl rfl hl.1 rfl (lv_room (Nat.le_of_ble_eq_true rfl)) dX11_strikes_91 ⟨Nat.le_of_ble_eq_true rfl, Nat.le_of_ble_eq_true rfl⟩) hP hD hS hA [9, 10] [0, 1, 2, 3, 4, 5, 6, 7, 8, 11, 12] rfl rfl (by decide) (by decide) (fun r_79 u H locs w_80 hP hD hS => ?_)
        obtain ⟨⟩ := u
        have hP : va_P D vwCl [(aI ca h0_law_caseFloor 5 F_h0_law_caseFloor), (aI ca h0_latest 7 F_h0_latest), (h0, .inr (10, [.ref h0_tape, .ref h0_law, .ref h0_standing, .ref h0_saying, .ref h0_courtReader, .ref h0_bookReader, .ref h0_sentenceReader, .ref h0_bench, .ref h0_whatIf, .ref h0_history, .ref h0_images, .ref h0_latest, .ref h0_latestBook, .ref h0_latestRoll, .int h0_rollLength])), (h0_law, .inr (5, [.int h0_law_jurors, .int h0_law_floors, .int h0_law_cases, .int h0_law_one, .int h0_law_dent, .int h0_law_seated, .ref h0_law_jurorName, .ref h0_law_floorName, .ref h0_law_caseName, .ref h0_law_pitch, .ref h0_law_length, .ref h0_law_hands, .ref h0_law_tune, .ref h0_law_dull, .ref h0_law_caseFloor, .ref h0_law_tuned])), (h0_standing, .inr (9, [.int h0_standing_day, .int h0_standing_sits, .int h0_standing_holds, .int h0_standing_trials, .int h0_standing_triedToday, .ref h0_standing_dents, .ref h0_standing_drops, .ref h0_standing_how, .ref h0_standing_triedOn, .ref h0_standing_dropped, .ref h0_standing_heldOn])), (aI ca h0_law_tuned 40 F_h0_law_tuned), (aI ca h0_law_pitch 10 F_h0_law_pitch), (aI ca h0_law_tune 4 F_h0_law_tune), (aI ca h0_standing_dents 10 F_h0_standing_dents), (aI ca h0_bench_high 1024 u_71), (aI ca h0_bench_low 1024 u_70), (h0_bench, .inr (0, [.ref h0_bench_frees, .ref h0_bench_low, .ref h0_bench_high, .ref h0_bench_letGoWeight, .ref h0_bench_holdWeight, .ref h0_bench_heardWith])), (aZ ca h0_bench_frees 1024 u_78)] H := hP
        have hD : va_D A [(aI ca h0_law_caseFloor 5 F_h0_law_caseFloor), (aI ca h0_latest 7 F_h0_latest), (h0, .inr (10, [.ref h0_tape, .ref h0_law, .ref h0_standing, .ref h0_saying, .ref h0_courtReader, .ref h0_bookReader, .ref h0_sentenceReader, .ref h0_bench, .ref h0_whatIf, .ref h0_history, .ref h0_images, .ref h0_latest, .ref h0_latestBook, .ref h0_latestRoll, .int h0_rollLength])), (h0_law, .inr (5, [.int h0_law_jurors, .int h0_law_floors, .int h0_law_cases, .int h0_law_one, .int h0_law_dent, .int h0_law_seated, .ref h0_law_jurorName, .ref h0_law_floorName, .ref h0_law_caseName, .ref h0_law_pitch, .ref h0_law_length, .ref h0_law_hands, .ref h0_law_tune, .ref h0_law_dull, .ref h0_law_caseFloor, .ref h0_law_tuned])), (h0_standing, .inr (9, [.int h0_standing_day, .int h0_standing_sits, .int h0_standing_holds, .int h0_standing_trials, .int h0_standing_triedToday, .ref h0_standing_dents, .ref h0_standing_drops, .ref h0_standing_how, .ref h0_standing_triedOn, .ref h0_standing_dropped, .ref h0_standing_heldOn])), (aI ca h0_law_tuned 40 F_h0_law_tuned), (aI ca h0_law_pitch 10 F_h0_law_pitch), (aI ca h0_law_tune 4 F_h0_law_tune), (aI ca h0_standing_dents 10 F_h0_standing_dents), (aI ca h0_bench_high 1024 u_71), (aI ca h0_bench_low 1024 u_70), (h0_bench, .inr (0, [.ref h0_bench_frees, .ref h0_bench_low, .ref h0_bench_high, .ref h0_bench_letGoWeight, .ref h0_bench_holdWeight, .ref h0_bench_heardWith])), (aZ ca h0_bench_frees 1024 u_78)] := hD
        try dsimp only at w_80
        have h_81 := w_80
        refine va_iast hx hb hK.1 hP hD hS 1 0 rfl rfl (rg_in (⟨by decide, by decide⟩ : rg 5 5 (5 : Int32)) (by decide) (by decide)) dX11_strikes_94 (fun H locs hP hD hS => ?_)
        obtain ⟨g_82, eg_82⟩ : ∃ y : Nat → Int32, y = upd F_h0_latest (5 : Int32).toNatClampNeg (r_79 : Int32) := ⟨_, rfl⟩
        rw [← eg_82] at hP hD
        have s_83 : sg 5 6 (-1) 9 g_82 := sg_one eg_82 h_81
        have q_84 : eqs 0 5 g_82 F_h0_latest := eqs_out (eqs_rf (a := 0) (b := 7) F_h0_latest) eg_82 (⟨by decide, by decide⟩ : rg 5 5 (5 : Int32)) (by decide) (by decide) (by decide) (by decide)
        have q_85 : eqs 6 7 g_82 F_h0_latest := eqs_out (eqs_rf (a := 0) (b := 7) F_h0_latest) eg_82 (⟨by decide, by decide⟩ : rg 5 5 (5 : Int32)) (by decide) (by decide) (by decide) (by decide)
        have hP : va_P D vwCl [(aI ca h0_law_caseFloor 5 F_h0_law_caseFloor), (aI ca h0_latest 7 g_82), (h0, .inr (10, [.ref h0_tape, .ref h0_law, .ref h0_standing, .ref h0_saying, .ref h0_courtReader, .ref h0_bookReader, .ref h0_sentenceReader, .ref h0_bench, .ref h0_whatIf, .ref h0_history, .ref h0_images, .ref h0_latest, .ref h0_latestBook, .ref h0_latestRoll, .int h0_rollLength])), (h0_law, .inr (5, [.int h0_law_jurors, .int h0_law_floors, .int h0_law_cases, .int h0_law_one, .int h0_law_dent, .int h0_law_seated, .ref h0_law_jurorName, .ref h0_law_floorName, .ref h0_law_caseName, .ref h0_law_pitch, .ref h0_law_length, .ref h0_law_hands, .ref h0_law_tune, .ref h0_law_dull, .ref h0_law_caseFloor, .ref h0_law_tuned])), (h0_standing, .inr (9, [.int h0_standing_day, .int h0_standing_sits, .int h0_standing_holds, .int h0_standing_trials, .int h0_standing_triedToday, .ref h0_standing_dents, .ref h0_standing_drops, .ref h0_standing_how, .ref h0_standing_triedOn, .ref h0_standing_dropped, .ref h0_standing_heldOn])), (aI ca h0_law_tuned 40 F_h0_law_tuned), (aI ca h0_law_pitch 10 F_h0_law_pitch), (aI ca h0_law_tune 4 F_h0_law_tune), (aI ca h0_standing_dents 10 F_h0_standing_dents), (aI ca h0_bench_high 1024 u_71), (aI ca h0_bench_low 1024 u_70), (h0_bench, .inr (0, [.ref h0_bench_frees, .ref h0_bench_low, .ref h0_bench_high, .ref h0_bench_letGoWeight, .ref h0_bench_holdWeight, .ref h0_bench_heardWith])), (aZ ca h0_bench_frees 1024 u_78)] H := hP
        have hD : va_D A [(aI ca h0_law_caseFloor 5 F_h0_law_caseFloor), (aI ca h0_latest 7 g_82), (h0, .inr (10, [.ref h0_tape, .ref h0_law, .ref h0_standing, .ref h0_saying, .ref h0_courtReader, .ref h0_bookReader, .ref h0_sentenceReader, .ref h0_bench, .ref h0_whatIf, .ref h0_history, .ref h0_images, .ref h0_latest, .ref h0_latestBook, .ref h0_latestRoll, .int h0_rollLength])), (h0_law, .inr (5, [.int h0_law_jurors, .int h0_law_floors, .int h0_law_cases, .int h0_law_one, .int h0_law_dent, .int h0_law_seated, .ref h0_law_jurorName, .ref h0_law_floorName, .ref h0_law_caseName, .ref h0_law_pitch, .ref h0_law_length, .ref h0_law_hands, .ref h0_law_tune, .ref h0_law_dull, .ref h0_law_caseFloor, .ref h0_law_tuned])), (h0_standing, .inr (9, [.int h0_standing_day, .int h0_standing_sits, .int h0_standing_holds, .int h0_standing_trials, .int h0_standing_triedToday, .ref h0_standing_dents, .ref h0_standing_drops, .ref h0_standing_how, .ref h0_standing_triedOn, .ref h0_standing_dropped, .ref h0_standing_heldOn])), (aI ca h0_law_tuned 40 F_h0_law_tuned), (aI ca h0_law_pitch 10 F_h0_law_pitch), (aI ca h0_law_tune 4 F_h0_law_tune), (aI ca h0_standing_dents 10 F_h0_standing_dents), (aI ca h0_bench_high 1024 u_71), (aI ca h0_bench_low 1024 u_70), (h0_bench, .inr (0, [.ref h0_bench_frees, .ref h0_bench_low, .ref h0_bench_high, .ref h0_bench_letGoWeight, .ref h0_bench_holdWeight, .ref h0_bench_heardWith])), (aZ ca h0_bench_frees 1024 u_78)] := hD
        refine lv_aload_n hx hb dX11_strikes_95 rfl (lv_at hl 0 rfl) ?_
        refine va_get (D := D) (ci := 10) (v := .ref h0_bench) (C := RX11) (T := TX11) (N := 15) hx hb hts k2 hown hK.1 hP 2 rfl rfl 7 (by decide) k5 (fun _ h9 => h9) rfl dX11_strikes_96 ?_
        refine va_get (D := D) (ci := 0) (v := .ref h0_bench_frees) (C := RX0) (T := TX0) (N := 6) hx hb hts k12 hown hK.1 hP 11 rfl rfl 0 (by decide) k11 (fun _ h9 => h9) rfl dX11_strikes_99 ?_
        refine lv_aload_n hx hb dX11_strikes_102 rfl (lv_at hl 0 rfl) ?_
        refine va_get (D := D) (ci := 10) (v := .ref h0_standing) (C := RX11) (T := TX11) (N := 15) hx hb hts k2 hown hK.1 hP 2 rfl rfl 2 (by decide) k1 (fun _ h9 => h9) rfl dX11_strikes_103 ?_
        refine va_get (D := D) (ci := 9) (v := .int h0_standing_sits) (C := RX9) (T := TX9) (N := 11) hx hb hts k4 hown hK.1 hP 4 rfl rfl 1 (by decide) k3 (fun _ h9 => h9) rfl dX11_strikes_106 ?_
        refine va_zald hx hb hK.1 hP 12 2 rfl rfl (rg_in i_h0_standing_sits (by decide) (by decide)) dX11_strikes_109 ?_
        refine lv_topi (fun x_86 ex_86 => ?_)
        refine lv_if_eq (tgt := 117) hx hb dX11_strikes_110 (by decide) (fun c_87 => ?_) (fun c_87 => ?_)
        · skip
          have o_88 : rl 0 x_86 0 := rl_eq c_87
          have h_89 : rg (-2147483648) 0 x_86 := rl_x o_88 (rga x_86) (⟨by decide, by decide⟩ : rg 0 0 (0 : Int32)) (by decide) (by decide)
          have o_90 : rl 0 0 x_86 := rl_eq c_87.symm
          have h_91 : rg 0 0 x_86 := rl_y o_90 (⟨by decide, by decide⟩ : rg 0 0 (0 : Int32)) h_89 (by decide) (by decide)
          refine lv_iconst (v := 0) hx hb dX11_strikes_117 (by decide) ?_
          exact oE_i hx hb hr rfl hlocks hP hD hS (u_70, u_71, u_78, g_82) [2, 3, 4, 0, 11, 5, 6, 7, 8, 10, 9, 12, 1] rfl (by decide) ⟨(⟨by decide, by decide⟩ : rg (-1) 1 (0 : Int32)), q_84, q_85⟩ (Nat.le_of_ble_eq_true rfl) (Nat.le_of_ble_eq_true rfl) dX11_strikes_118
        · skip
          refine lv_iconst (v := 1) hx hb dX11_strikes_113 (by decide) ?_
          refine lv_goto (tgt := 118) hx hb dX11_strikes_114 (by decide) ?_
          exact oE_i hx hb hr rfl hlocks hP hD hS (u_70, u_71, u_78, g_82) [2, 3, 4, 0, 11, 5, 6, 7, 8, 10, 9, 12, 1] rfl (by decide) ⟨(⟨by decide, by decide⟩ : rg (-1) 1 (1 : Int32)), q_84, q_85⟩ (Nat.le_of_ble_eq_true rfl) (Nat.le_of_ble_eq_true rfl) dX11_strikes_118
      · skip
        have o_92 : rl 0 r_59 a2 := rl_nlt c_62
        refine lv_iconst (v := (-1)) hx hb dX11_strikes_27 (by decide) ?_
        exact oE_i hx hb hr rfl hlocks hP hD hS (F_h0_bench_low, F_h0_bench_high, F_h0_bench_frees, F_h0_latest) [11, 12, 0, 1, 2, 3, 4, 5, 6, 7, 8, 9, 10] rfl (by decide) ⟨(⟨by decide, by decide⟩ : rg (-1) 1 ((-1) : Int32)), (eqs_w (a' := 0) (b' := 5) (eqs_rf (a := 0) (b := 7) F_h0_latest) (by decide) (by decide)), (eqs_w (a' := 6) (b' := 7) (eqs_rf (a := 0) (b := 7) F_h0_latest) (by decide) (by decide))⟩ (Nat.le_of_ble_eq_true rfl) (Nat.le_of_ble_eq_true rfl) dX11_strikes_28
theorem dX11_struck_0 : decode cX11_struck 0 = .ok (.aload_n 0, 1) := by decide +kernel
theorem dX11_struck_1 : decode cX11_struck 1 = .ok (.getfield 83, 3) := by decide +kernel
theorem dX11_struck_4 : decode cX11_struck 4 = .ok (.iconst 5, 1) := by decide +kernel
theorem dX11_struck_5 : decode cX11_struck 5 = .ok (.iaload, 1) := by decide +kernel
theorem dX11_struck_6 : decode cX11_struck 6 = .ok (.ireturn, 1) := by decide +kernel
set_option maxHeartbeats 4000000 in
set_option maxRecDepth 100000 in
theorem s_X11_struck (l : Launch) (D : va_G) (ca : Nat → ClassId) (sz : Nat) (h0 : Nat) (h0_tape : Nat) (h0_law : Nat) (h0_standing : Nat) (h0_saying : Nat) (h0_courtReader : Nat) (h0_bookReader : Nat) (h0_sentenceReader : Nat) (h0_bench : Nat) (h0_whatIf : Nat) (h0_history : Nat) (h0_images : Nat) (h0_latest : Nat) (h0_latestBook : Nat) (h0_latestRoll : Nat) (h0_rollLength : Int32) (F_h0_latest : Nat → Int32) (i_h0_rollLength : rg 0 40 h0_rollLength) : oMet l yX11_struck wsX11_struck ({ frames := 0, cells := 0, slots := 0, locals := 0 } : Room) [.ref h0] D ca sz [(h0, .inr (10, [.ref h0_tape, .ref h0_law, .ref h0_standing, .ref h0_saying, .ref h0_courtReader, .ref h0_bookReader, .ref h0_sentenceReader, .ref h0_bench, .ref h0_whatIf, .ref h0_history, .ref h0_images, .ref h0_latest, .ref h0_latestBook, .ref h0_latestRoll, .int h0_rollLength])), (aI ca h0_latest 7 F_h0_latest)] (oQi D (fun (r : Int32) (u : Unit) => (r = F_h0_latest (5 : Int32).toNatClampNeg)) (fun (u : Unit) => [(h0, .inr (10, [.ref h0_tape, .ref h0_law, .ref h0_standing, .ref h0_saying, .ref h0_courtReader, .ref h0_bookReader, .ref h0_sentenceReader, .ref h0_bench, .ref h0_whatIf, .ref h0_history, .ref h0_images, .ref h0_latest, .ref h0_latestBook, .ref h0_latestRoll, .int h0_rollLength])), (aI ca h0_latest 7 F_h0_latest)])) 0 0 := by
  refine oM (cc := cX11_struck) (maxL := 1) (ret := (some .int)) (by decide) rfl (Nat.le_of_ble_eq_true rfl) [(0, .ref h0)] rfl ?_
  intro p e s m below meth c A H locs ls hx hb hr hml hts hown hlocks hin hK hP hD hA hS hl
  have hown : s.vm.findClass RX11 = some m.cls := hown
  have k1 := hts (.fieldLink RX11 83 "LidCourt" "latest" "[I") (by decide +kernel)
  have k2 : ∀ w ∈ wsX110, w ∈ wsX11_struck := fun _ h => List.mem_cons_of_mem _ (List.mem_append_right _ h)
  refine lv_aload_n hx hb dX11_struck_0 rfl (lv_at hl 0 rfl) ?_
  refine va_get (D := D) (ci := 10) (v := .ref h0_latest) (C := RX11) (T := TX11) (N := 15) hx hb hts k2 hown hK.1 hP 0 rfl rfl 11 (by decide) k1 (fun _ h9 => h9) rfl dX11_struck_1 ?_
  refine lv_iconst (v := 5) hx hb dX11_struck_4 (by decide) ?_
  refine va_iald hx hb hK.1 hP 1 0 rfl rfl (rg_in (⟨by decide, by decide⟩ : rg 5 5 (5 : Int32)) (by decide) (by decide)) dX11_struck_5 ?_
  refine lv_topi (fun x_2 ex_2 => ?_)
  exact oE_i hx hb hr rfl hlocks hP hD hS () [0, 1] rfl (by decide) ex_2 (Nat.le_of_ble_eq_true rfl) (Nat.le_of_ble_eq_true rfl) dX11_struck_6
theorem dX0_fewestBeaten_0 : decode cX0_fewestBeaten 0 = .ok (.iconst 0, 1) := by decide +kernel
theorem dX0_fewestBeaten_1 : decode cX0_fewestBeaten 1 = .ok (.istore 5, 2) := by decide +kernel
theorem dX0_fewestBeaten_3 : decode cX0_fewestBeaten 3 = .ok (.iconst 0, 1) := by decide +kernel
theorem dX0_fewestBeaten_4 : decode cX0_fewestBeaten 4 = .ok (.istore 6, 2) := by decide +kernel
theorem dX0_fewestBeaten_6 : decode cX0_fewestBeaten 6 = .ok (.iload 6, 2) := by decide +kernel
theorem dX0_fewestBeaten_8 : decode cX0_fewestBeaten 8 = .ok (.aload_n 1, 1) := by decide +kernel
theorem dX0_fewestBeaten_9 : decode cX0_fewestBeaten 9 = .ok (.getfield 32, 3) := by decide +kernel
theorem dX0_fewestBeaten_12 : decode cX0_fewestBeaten 12 = .ok (.if_icmp .ge 37, 3) := by decide +kernel
theorem dX0_fewestBeaten_15 : decode cX0_fewestBeaten 15 = .ok (.iload_n 3, 1) := by decide +kernel
theorem dX0_fewestBeaten_16 : decode cX0_fewestBeaten 16 = .ok (.iload 6, 2) := by decide +kernel
theorem dX0_fewestBeaten_18 : decode cX0_fewestBeaten 18 = .ok (.ishr, 1) := by decide +kernel
theorem dX0_fewestBeaten_19 : decode cX0_fewestBeaten 19 = .ok (.iconst 1, 1) := by decide +kernel
theorem dX0_fewestBeaten_20 : decode cX0_fewestBeaten 20 = .ok (.iand, 1) := by decide +kernel
theorem dX0_fewestBeaten_21 : decode cX0_fewestBeaten 21 = .ok (.ifCond .eq 22, 3) := by decide +kernel
theorem dX0_fewestBeaten_24 : decode cX0_fewestBeaten 24 = .ok (.aload_n 2, 1) := by decide +kernel
theorem dX0_fewestBeaten_25 : decode cX0_fewestBeaten 25 = .ok (.getfield 90, 3) := by decide +kernel
theorem dX0_fewestBeaten_28 : decode cX0_fewestBeaten 28 = .ok (.iload 6, 2) := by decide +kernel
theorem dX0_fewestBeaten_30 : decode cX0_fewestBeaten 30 = .ok (.iaload, 1) := by decide +kernel
theorem dX0_fewestBeaten_31 : decode cX0_fewestBeaten 31 = .ok (.ifCond .le 12, 3) := by decide +kernel
theorem dX0_fewestBeaten_34 : decode cX0_fewestBeaten 34 = .ok (.iload 5, 2) := by decide +kernel
theorem dX0_fewestBeaten_36 : decode cX0_fewestBeaten 36 = .ok (.iconst 1, 1) := by decide +kernel
theorem dX0_fewestBeaten_37 : decode cX0_fewestBeaten 37 = .ok (.iload 6, 2) := by decide +kernel
theorem dX0_fewestBeaten_39 : decode cX0_fewestBeaten 39 = .ok (.ishl, 1) := by decide +kernel
theorem dX0_fewestBeaten_40 : decode cX0_fewestBeaten 40 = .ok (.ior, 1) := by decide +kernel
theorem dX0_fewestBeaten_41 : decode cX0_fewestBeaten 41 = .ok (.istore 5, 2) := by decide +kernel
theorem dX0_fewestBeaten_43 : decode cX0_fewestBeaten 43 = .ok (.iinc 6 1, 3) := by decide +kernel
theorem dX0_fewestBeaten_46 : decode cX0_fewestBeaten 46 = .ok (.goto (-40), 3) := by decide +kernel
theorem dX0_fewestBeaten_49 : decode cX0_fewestBeaten 49 = .ok (.iconst (-1), 1) := by decide +kernel
theorem dX0_fewestBeaten_50 : decode cX0_fewestBeaten 50 = .ok (.istore 6, 2) := by decide +kernel
theorem dX0_fewestBeaten_52 : decode cX0_fewestBeaten 52 = .ok (.iconst 0, 1) := by decide +kernel
theorem dX0_fewestBeaten_53 : decode cX0_fewestBeaten 53 = .ok (.istore 7, 2) := by decide +kernel
theorem dX0_fewestBeaten_55 : decode cX0_fewestBeaten 55 = .ok (.iload 7, 2) := by decide +kernel
theorem dX0_fewestBeaten_57 : decode cX0_fewestBeaten 57 = .ok (.iload 5, 2) := by decide +kernel
theorem dX0_fewestBeaten_59 : decode cX0_fewestBeaten 59 = .ok (.if_icmp .gt 71, 3) := by decide +kernel
theorem dX0_fewestBeaten_62 : decode cX0_fewestBeaten 62 = .ok (.iload 6, 2) := by decide +kernel
theorem dX0_fewestBeaten_64 : decode cX0_fewestBeaten 64 = .ok (.iconst (-1), 1) := by decide +kernel
theorem dX0_fewestBeaten_65 : decode cX0_fewestBeaten 65 = .ok (.if_icmp .eq 16, 3) := by decide +kernel
theorem dX0_fewestBeaten_68 : decode cX0_fewestBeaten 68 = .ok (.iload 7, 2) := by decide +kernel
theorem dX0_fewestBeaten_70 : decode cX0_fewestBeaten 70 = .ok (.invokestatic 65, 3) := by decide +kernel
theorem dX0_fewestBeaten_73 : decode cX0_fewestBeaten 73 = .ok (.iload 6, 2) := by decide +kernel
theorem dX0_fewestBeaten_75 : decode cX0_fewestBeaten 75 = .ok (.invokestatic 65, 3) := by decide +kernel
theorem dX0_fewestBeaten_78 : decode cX0_fewestBeaten 78 = .ok (.if_icmp .ge 7, 3) := by decide +kernel
theorem dX0_fewestBeaten_81 : decode cX0_fewestBeaten 81 = .ok (.iconst 1, 1) := by decide +kernel
theorem dX0_fewestBeaten_82 : decode cX0_fewestBeaten 82 = .ok (.goto 4, 3) := by decide +kernel
theorem dX0_fewestBeaten_85 : decode cX0_fewestBeaten 85 = .ok (.iconst 0, 1) := by decide +kernel
theorem dX0_fewestBeaten_86 : decode cX0_fewestBeaten 86 = .ok (.istore 8, 2) := by decide +kernel
theorem dX0_fewestBeaten_88 : decode cX0_fewestBeaten 88 = .ok (.iload 7, 2) := by decide +kernel
theorem dX0_fewestBeaten_90 : decode cX0_fewestBeaten 90 = .ok (.iload 5, 2) := by decide +kernel
theorem dX0_fewestBeaten_92 : decode cX0_fewestBeaten 92 = .ok (.iconst (-1), 1) := by decide +kernel
theorem dX0_fewestBeaten_93 : decode cX0_fewestBeaten 93 = .ok (.ixor, 1) := by decide +kernel
theorem dX0_fewestBeaten_94 : decode cX0_fewestBeaten 94 = .ok (.iand, 1) := by decide +kernel
theorem dX0_fewestBeaten_95 : decode cX0_fewestBeaten 95 = .ok (.ifCond .ne 29, 3) := by decide +kernel
theorem dX0_fewestBeaten_98 : decode cX0_fewestBeaten 98 = .ok (.iload 8, 2) := by decide +kernel
theorem dX0_fewestBeaten_100 : decode cX0_fewestBeaten 100 = .ok (.ifCond .eq 24, 3) := by decide +kernel
theorem dX0_fewestBeaten_103 : decode cX0_fewestBeaten 103 = .ok (.aload_n 2, 1) := by decide +kernel
theorem dX0_fewestBeaten_104 : decode cX0_fewestBeaten 104 = .ok (.aload_n 1, 1) := by decide +kernel
theorem dX0_fewestBeaten_105 : decode cX0_fewestBeaten 105 = .ok (.iload_n 3, 1) := by decide +kernel
theorem dX0_fewestBeaten_106 : decode cX0_fewestBeaten 106 = .ok (.iload 4, 2) := by decide +kernel
theorem dX0_fewestBeaten_108 : decode cX0_fewestBeaten 108 = .ok (.iload 7, 2) := by decide +kernel
theorem dX0_fewestBeaten_110 : decode cX0_fewestBeaten 110 = .ok (.invokevirtual 93, 3) := by decide +kernel
theorem dX0_fewestBeaten_113 : decode cX0_fewestBeaten 113 = .ok (.aload_n 1, 1) := by decide +kernel
theorem dX0_fewestBeaten_114 : decode cX0_fewestBeaten 114 = .ok (.getfield 62, 3) := by decide +kernel
theorem dX0_fewestBeaten_117 : decode cX0_fewestBeaten 117 = .ok (.if_icmp .gt 7, 3) := by decide +kernel
theorem dX0_fewestBeaten_120 : decode cX0_fewestBeaten 120 = .ok (.iload 7, 2) := by decide +kernel
theorem dX0_fewestBeaten_122 : decode cX0_fewestBeaten 122 = .ok (.istore 6, 2) := by decide +kernel
theorem dX0_fewestBeaten_124 : decode cX0_fewestBeaten 124 = .ok (.iinc 7 1, 3) := by decide +kernel
theorem dX0_fewestBeaten_127 : decode cX0_fewestBeaten 127 = .ok (.goto (-72), 3) := by decide +kernel
theorem dX0_fewestBeaten_130 : decode cX0_fewestBeaten 130 = .ok (.iload 6, 2) := by decide +kernel
theorem dX0_fewestBeaten_132 : decode cX0_fewestBeaten 132 = .ok (.ireturn, 1) := by decide +kernel
set_option maxRecDepth 20000 in
theorem ggX0_fewestBeaten_X9_apart : GoodIn wsX0_fewestBeaten wsX9_apart := goodIn_r _ [15, 16, 17, 18, 19, 20, 21, 22, 23, 24, 25, 26, 27, 28, 29, 30, 31, 32, 33, 34, 14, 35, 36, 37, 38, 39, 40, 41, 42, 43, 44, 45, 46, 47, 48, 49, 50, 51, 52, 53, 54, 55, 56, 57, 58, 59, 60, 61, 62, 63, 64] rfl (by decide +kernel)
set_option maxRecDepth 20000 in
theorem gX0_fewestBeaten_X9_apart : GoodIn wsX0_fewestBeaten (wsV RX0 93 RX9 yX9_apart wsX9_apart) := goodIn_app (goodIn_of _ (by decide +kernel)) ggX0_fewestBeaten_X9_apart
set_option maxRecDepth 20000 in
theorem ggX0_fewestBeaten_J6_bitCount_0f7a4 : GoodIn wsX0_fewestBeaten wsJ6_bitCount_0f7a4 := goodIn_r _ [7, 8, 9, 10] rfl (by decide +kernel)
set_option maxRecDepth 20000 in
theorem gX0_fewestBeaten_J6_bitCount_0f7a4 : GoodIn wsX0_fewestBeaten (va_wsS RX0 65 yJ6_bitCount_0f7a4 wsJ6_bitCount_0f7a4) := goodIn_app (goodIn_of _ (by decide +kernel)) ggX0_fewestBeaten_J6_bitCount_0f7a4
set_option maxHeartbeats 4000000 in
set_option maxRecDepth 100000 in
theorem s_X0_fewestBeaten (l : Launch) (D : va_G) (ca : Nat → ClassId) (sz : Nat) (h0 : Nat) (r1 : Nat) (r2 : Nat) (a3 : Int32) (a4 : Int32) (h0_frees : Nat) (h0_low : Nat) (h0_high : Nat) (h0_letGoWeight : Nat) (h0_holdWeight : Nat) (h0_heardWith : Nat) (r1_jurors : Int32) (r1_floors : Int32) (r1_cases : Int32) (r1_one : Int32) (r1_dent : Int32) (r1_seated : Int32) (r1_jurorName : Nat) (r1_floorName : Nat) (r1_caseName : Nat) (r1_pitch : Nat) (r1_length : Nat) (r1_hands : Nat) (r1_tune : Nat) (r1_dull : Nat) (r1_caseFloor : Nat) (r1_tuned : Nat) (r2_day : Int32) (r2_sits : Int32) (r2_holds : Int32) (r2_trials : Int32) (r2_triedToday : Int32) (r2_dents : Nat) (r2_drops : Nat) (r2_how : Nat) (r2_triedOn : Nat) (r2_dropped : Nat) (r2_heldOn : Nat) (F_r2_dents : Nat → Int32) (F_r1_tuned : Nat → Int32) (F_r1_pitch : Nat → Int32) (F_r1_tune : Nat → Int32) (i_a3 : rg 0 1023 a3) (i_a4 : rg 0 3 a4) (i_r1_jurors : rg 0 10 r1_jurors) (i_r1_floors : rg 0 4 r1_floors) (i_r1_cases : rg 0 5 r1_cases) (i_r1_seated : rg 0 1023 r1_seated) (i_r2_sits : rg 0 1023 r2_sits) (i_r2_triedToday : rg 0 1 r2_triedToday) : oMet l yX0_fewestBeaten wsX0_fewestBeaten ({ frames := 3, cells := 0, slots := 0, locals := 75 } : Room) [.ref h0, .ref r1, .ref r2, .int a3, .int a4] D ca sz [(h0, .inr (0, [.ref h0_frees, .ref h0_low, .ref h0_high, .ref h0_letGoWeight, .ref h0_holdWeight, .ref h0_heardWith])), (r1, .inr (5, [.int r1_jurors, .int r1_floors, .int r1_cases, .int r1_one, .int r1_dent, .int r1_seated, .ref r1_jurorName, .ref r1_floorName, .ref r1_caseName, .ref r1_pitch, .ref r1_length, .ref r1_hands, .ref r1_tune, .ref r1_dull, .ref r1_caseFloor, .ref r1_tuned])), (r2, .inr (9, [.int r2_day, .int r2_sits, .int r2_holds, .int r2_trials, .int r2_triedToday, .ref r2_dents, .ref r2_drops, .ref r2_how, .ref r2_triedOn, .ref r2_dropped, .ref r2_heldOn])), (aI ca r2_dents 10 F_r2_dents), (aI ca r1_tuned 40 F_r1_tuned), (aI ca r1_pitch 10 F_r1_pitch), (aI ca r1_tune 4 F_r1_tune)] (oQi D (fun (r : Int32) (u : Unit) => (rg (-1) 1023 r)) (fun (u : Unit) => [(h0, .inr (0, [.ref h0_frees, .ref h0_low, .ref h0_high, .ref h0_letGoWeight, .ref h0_holdWeight, .ref h0_heardWith])), (r1, .inr (5, [.int r1_jurors, .int r1_floors, .int r1_cases, .int r1_one, .int r1_dent, .int r1_seated, .ref r1_jurorName, .ref r1_floorName, .ref r1_caseName, .ref r1_pitch, .ref r1_length, .ref r1_hands, .ref r1_tune, .ref r1_dull, .ref r1_caseFloor, .ref r1_tuned])), (r2, .inr (9, [.int r2_day, .int r2_sits, .int r2_holds, .int r2_trials, .int r2_triedToday, .ref r2_dents, .ref r2_drops, .ref r2_how, .ref r2_triedOn, .ref r2_dropped, .ref r2_heldOn])), (aI ca r2_dents 10 F_r2_dents), (aI ca r1_tuned 40 F_r1_tuned), (aI ca r1_pitch 10 F_r1_pitch), (aI ca r1_tune 4 F_r1_tune)])) 0 0 := by
  refine oM (cc := cX0_fewestBeaten) (maxL := 9) (ret := (some .int)) (by decide) rfl (Nat.le_of_ble_eq_true rfl) [(0, .ref h0), (1, .ref r1), (2, .ref r2), (3, .int a3), (4, .int a4)] rfl ?_
  intro p e s m below meth c A H locs ls hx hb hr hml hts hown hlocks hin hK hP hD hA hS hl
  have hown : s.vm.findClass RX0 = some m.cls := hown
  have k1 := hts (.fieldLink RX0 62 "LidCourt$Law" "one" "I") (by decide +kernel)
  have k2 : ∀ w ∈ wsX50, w ∈ wsX0_fewestBeaten := fun _ h => List.mem_cons_of_mem _ (List.mem_append_left _ (List.mem_append_right _ h))
  have k3 := hts (.fieldLink RX0 32 "LidCourt$Law" "jurors" "I") (by decide +kernel)
  have k4 := hts (.fieldLink RX0 90 "LidCourt$Standing" "dents" "[I") (by decide +kernel)
  have k5 : ∀ w ∈ wsX90, w ∈ wsX0_fewestBeaten := fun _ h => List.mem_cons_of_mem _ (List.mem_append_right _ h)
  have J55_825 : ∀ (n : Nat) (y55_0 : Int32) (y55_1 : Int32) (y55_2 : Int32), True → rg 0 1023 y55_0 → rg (-1) 1023 y55_1 → rg 0 1024 y55_2 → 1024 < y55_2.toInt + (n : Int) → ∀ (H : Heap) (locs : List Loc) (ls : Array Slot), va_P D vwCl [(h0, .inr (0, [.ref h0_frees, .ref h0_low, .ref h0_high, .ref h0_letGoWeight, .ref h0_holdWeight, .ref h0_heardWith])), (r1, .inr (5, [.int r1_jurors, .int r1_floors, .int r1_cases, .int r1_one, .int r1_dent, .int r1_seated, .ref r1_jurorName, .ref r1_floorName, .ref r1_caseName, .ref r1_pitch, .ref r1_length, .ref r1_hands, .ref r1_tune, .ref r1_dull, .ref r1_caseFloor, .ref r1_tuned])), (r2, .inr (9, [.int r2_day, .int r2_sits, .int r2_holds, .int r2_trials, .int r2_triedToday, .ref r2_dents, .ref r2_drops, .ref r2_how, .ref r2_triedOn, .ref r2_dropped, .ref r2_heldOn])), (aI ca r2_dents 10 F_r2_dents), (aI ca r1_tuned 40 F_r1_tuned), (aI ca r1_pitch 10 F_r1_pitch), (aI ca r1_tune 4 F_r1_tune)] H → va_D A [(h0, .inr (0, [.ref h0_frees, .ref h0_low, .ref h0_high, .ref h0_letGoWeight, .ref h0_holdWeight, .ref h0_heardWith])), (r1, .inr (5, [.int r1_jurors, .int r1_floors, .int r1_cases, .int r1_one, .int r1_dent, .int r1_seated, .ref r1_jurorName, .ref r1_floorName, .ref r1_caseName, .ref r1_pitch, .ref r1_length, .ref r1_hands, .ref r1_tune, .ref r1_dull, .ref r1_caseFloor, .ref r1_tuned])), (r2, .inr (9, [.int r2_day, .int r2_sits, .int r2_holds, .int r2_trials, .int r2_triedToday, .ref r2_dents, .ref r2_drops, .ref r2_how, .ref r2_triedOn, .ref r2_dropped, .ref r2_heldOn])), (aI ca r2_dents 10 F_r2_dents), (aI ca r1_tuned 40 F_r1_tuned), (aI ca r1_pitch 10 F_r1_pitch), (aI ca r1_tune 4 F_r1_tune)] → va_S A s.heap H locs → lv_has ls 9 [(1, .ref r1), (2, .ref r2), (3, .int a3), (4, .int a4), (5, .int y55_0), (6, .int y55_1), (7, .int y55_2)] → W p l e ({ frames := 3, cells := 0, slots := 0, locals := 75 } : Room) s m ([.ref h0, .ref r1, .ref r2, .int a3, .int a4] : List Value).toArray below meth c H locs 0 0 (MQ below ((oQi D (fun (r : Int32) (u : Unit) => (rg (-1) 1023 r)) (fun (u : Unit) => [(h0, .inr (0, [.ref h0_frees, .ref h0_low, .ref h0_high, .ref h0_letGoWeight, .ref h0_holdWeight, .ref h0_heardWith])), (r1, .inr (5, [.int r1_jurors, .int r1_floors, .int r1_cases, .int r1_one, .int r1_dent, .int r1_seated, .ref r1_jurorName, .ref r1_floorName, .ref r1_caseName, .ref r1_pitch, .ref r1_length, .ref r1_hands, .ref r1_tune, .ref r1_dull, .ref r1_caseFloor, .ref r1_tuned])), (r2, .inr (9, [.int r2_day, .int r2_sits, .int r2_holds, .int r2_trials, .int r2_triedToday, .ref r2_dents, .ref r2_drops, .ref r2_how, .ref r2_triedOn, .ref r2_dropped, .ref r2_heldOn])), (aI ca r2_dents 10 F_r2_dents), (aI ca r1_tuned 40 F_r1_tuned), (aI ca r1_pitch 10 F_r1_pitch), (aI ca r1_tune 4 F_r1_tune)])) A) ([.ref h0, .ref r1, .ref r2, .int a3, .int a4] : List Value).toArray s 0 0 A) (F0 m 55 ls []) := by
    intro n
    induction n with
    | zero => intro y55_0 y55_1 y55_2 _ hy55_0 hy55_1 hy55_2 hn; exact absurd hn (by have q9 := hy55_2.2; omega)
    | succ n ih =>
      intro y55_0 y55_1 y55_2 _ hy55_0 hy55_1 hy55_2 hn H locs ls hP hD hS hl
      have J124_871 : ∀ (y124_0 : Int32), rg (-1) 1023 y124_0 → rg 0 1023 y55_2 → rl 0 y55_2 y55_0 → ∀ (H : Heap) (locs : List Loc) (ls : Array Slot), va_P D vwCl [(h0, .inr (0, [.ref h0_frees, .ref h0_low, .ref h0_high, .ref h0_letGoWeight, .ref h0_holdWeight, .ref h0_heardWith])), (r1, .inr (5, [.int r1_jurors, .int r1_floors, .int r1_cases, .int r1_one, .int r1_dent, .int r1_seated, .ref r1_jurorName, .ref r1_floorName, .ref r1_caseName, .ref r1_pitch, .ref r1_length, .ref r1_hands, .ref r1_tune, .ref r1_dull, .ref r1_caseFloor, .ref r1_tuned])), (r2, .inr (9, [.int r2_day, .int r2_sits, .int r2_holds, .int r2_trials, .int r2_triedToday, .ref r2_dents, .ref r2_drops, .ref r2_how, .ref r2_triedOn, .ref r2_dropped, .ref r2_heldOn])), (aI ca r2_dents 10 F_r2_dents), (aI ca r1_tuned 40 F_r1_tuned), (aI ca r1_pitch 10 F_r1_pitch), (aI ca r1_tune 4 F_r1_tune)] H → va_D A [(h0, .inr (0, [.ref h0_frees, .ref h0_low, .ref h0_high, .ref h0_letGoWeight, .ref h0_holdWeight, .ref h0_heardWith])), (r1, .inr (5, [.int r1_jurors, .int r1_floors, .int r1_cases, .int r1_one, .int r1_dent, .int r1_seated, .ref r1_jurorName, .ref r1_floorName, .ref r1_caseName, .ref r1_pitch, .ref r1_length, .ref r1_hands, .ref r1_tune, .ref r1_dull, .ref r1_caseFloor, .ref r1_tuned])), (r2, .inr (9, [.int r2_day, .int r2_sits, .int r2_holds, .int r2_trials, .int r2_triedToday, .ref r2_dents, .ref r2_drops, .ref r2_how, .ref r2_triedOn, .ref r2_dropped, .ref r2_heldOn])), (aI ca r2_dents 10 F_r2_dents), (aI ca r1_tuned 40 F_r1_tuned), (aI ca r1_pitch 10 F_r1_pitch), (aI ca r1_tune 4 F_r1_tune)] → va_S A s.heap H locs → lv_has ls 9 [(1, .ref r1), (2, .ref r2), (3, .int a3), (4, .int a4), (5, .int y55_0), (6, .int y124_0), (7, .int y55_2)] → W p l e ({ frames := 3, cells := 0, slots := 0, locals := 75 } : Room) s m ([.ref h0, .ref r1, .ref r2, .int a3, .int a4] : List Value).toArray below meth c H locs 0 0 (MQ below ((oQi D (fun (r : Int32) (u : Unit) => (rg (-1) 1023 r)) (fun (u : Unit) => [(h0, .inr (0, [.ref h0_frees, .ref h0_low, .ref h0_high, .ref h0_letGoWeight, .ref h0_holdWeight, .ref h0_heardWith])), (r1, .inr (5, [.int r1_jurors, .int r1_floors, .int r1_cases, .int r1_one, .int r1_dent, .int r1_seated, .ref r1_jurorName, .ref r1_floorName, .ref r1_caseName, .ref r1_pitch, .ref r1_length, .ref r1_hands, .ref r1_tune, .ref r1_dull, .ref r1_caseFloor, .ref r1_tuned])), (r2, .inr (9, [.int r2_day, .int r2_sits, .int r2_holds, .int r2_trials, .int r2_triedToday, .ref r2_dents, .ref r2_drops, .ref r2_how, .ref r2_triedOn, .ref r2_dropped, .ref r2_heldOn])), (aI ca r2_dents 10 F_r2_dents), (aI ca r1_tuned 40 F_r1_tuned), (aI ca r1_pitch 10 F_r1_pitch), (aI ca r1_tune 4 F_r1_tune)])) A) ([.ref h0, .ref r1, .ref r2, .int a3, .int a4] : List Value).toArray s 0 0 A) (F0 m 124 ls []) := by
        intro y124_0 hy124_0 t124_y55_2 o124_y55_2_y55_0 H locs ls hP hD hS hl
        obtain ⟨x_872, ex_872⟩ : ∃ y : Int32, y = y55_2 + 1 := ⟨_, rfl⟩
        have h_873 : rg 1 1024 x_872 := by rw [ex_872]; exact rg_add t124_y55_2 (⟨by decide, by decide⟩ : rg 1 1 (1 : Int32)) (by decide) (by decide) (by decide) (by decide)
        have l_874 : lq x_872.toInt (y55_2.toInt + 1) := lqm (by rw [ex_872]; have q := tadd t124_y55_2 (⟨by decide, by decide⟩ : rg 1 1 (1 : Int32)) (by decide) (by decide); have r1 := lqe (lqm (by decide) : lq (1 : Int32).toInt 1); omega)
        refine lv_iinc (v := x_872) (lv' := [(7, .int x_872), (1, .ref r1), (2, .ref r2), (3, .int a3), (4, .int a4), (5, .int y55_0), (6, .int y124_0)]) hx hb dX0_fewestBeaten_124 hl (k := 6) rfl (by rw [ex_872]; rfl) (by decide) rfl (fun ls hl => ?_)
        refine lv_goto (tgt := 55) hx hb dX0_fewestBeaten_127 (by decide) ?_
        exact ih y55_0 y124_0 x_872 trivial hy55_0 hy124_0 (rgw (lo := 0) (hi := 1024) h_873 (by decide) (by decide)) (by have q0 := lqe l_874; omega) H locs ls (oPsub hP [0, 1, 2, 3, 4, 5, 6] rfl) (hD.sub [0, 1, 2, 3, 4, 5, 6] (by decide) rfl) hS (lv_sub hl [1, 2, 3, 4, 5, 6, 0] rfl)
      have J86_875 : ∀ (y86_0 : Int32), rg 0 1 y86_0 → rg 0 1023 y55_2 → rl 0 y55_2 y55_0 → ∀ (H : Heap) (locs : List Loc) (ls : Array Slot), va_P D vwCl [(h0, .inr (0, [.ref h0_frees, .ref h0_low, .ref h0_high, .ref h0_letGoWeight, .ref h0_holdWeight, .ref h0_heardWith])), (r1, .inr (5, [.int r1_jurors, .int r1_floors, .int r1_cases, .int r1_one, .int r1_dent, .int r1_seated, .ref r1_jurorName, .ref r1_floorName, .ref r1_caseName, .ref r1_pitch, .ref r1_length, .ref r1_hands, .ref r1_tune, .ref r1_dull, .ref r1_caseFloor, .ref r1_tuned])), (r2, .inr (9, [.int r2_day, .int r2_sits, .int r2_holds, .int r2_trials, .int r2_triedToday, .ref r2_dents, .ref r2_drops, .ref r2_how, .ref r2_triedOn, .ref r2_dropped, .ref r2_heldOn])), (aI ca r2_dents 10 F_r2_dents), (aI ca r1_tuned 40 F_r1_tuned), (aI ca r1_pitch 10 F_r1_pitch), (aI ca r1_tune 4 F_r1_tune)] H → va_D A [(h0, .inr (0, [.ref h0_frees, .ref h0_low, .ref h0_high, .ref h0_letGoWeight, .ref h0_holdWeight, .ref h0_heardWith])), (r1, .inr (5, [.int r1_jurors, .int r1_floors, .int r1_cases, .int r1_one, .int r1_dent, .int r1_seated, .ref r1_jurorName, .ref r1_floorName, .ref r1_caseName, .ref r1_pitch, .ref r1_length, .ref r1_hands, .ref r1_tune, .ref r1_dull, .ref r1_caseFloor, .ref r1_tuned])), (r2, .inr (9, [.int r2_day, .int r2_sits, .int r2_holds, .int r2_trials, .int r2_triedToday, .ref r2_dents, .ref r2_drops, .ref r2_how, .ref r2_triedOn, .ref r2_dropped, .ref r2_heldOn])), (aI ca r2_dents 10 F_r2_dents), (aI ca r1_tuned 40 F_r1_tuned), (aI ca r1_pitch 10 F_r1_pitch), (aI ca r1_tune 4 F_r1_tune)] → va_S A s.heap H locs → lv_has ls 9 [(1, .ref r1), (2, .ref r2), (3, .int a3), (4, .int a4), (5, .int y55_0), (6, .int y55_1), (7, .int y55_2)] → W p l e ({ frames := 3, cells := 0, slots := 0, locals := 75 } : Room) s m ([.ref h0, .ref r1, .ref r2, .int a3, .int a4] : List Value).toArray below meth c H locs 0 0 (MQ below ((oQi D (fun (r : Int32) (u : Unit) => (rg (-1) 1023 r)) (fun (u : Unit) => [(h0, .inr (0, [.ref h0_frees, .ref h0_low, .ref h0_high, .ref h0_letGoWeight, .ref h0_holdWeight, .ref h0_heardWith])), (r1, .inr (5, [.int r1_jurors, .int r1_floors, .int r1_cases, .int r1_one, .int r1_dent, .int r1_seated, .ref r1_jurorName, .ref r1_floorName, .ref r1_caseName, .ref r1_pitch, .ref r1_length, .ref r1_hands, .ref r1_tune, .ref r1_dull, .ref r1_caseFloor, .ref r1_tuned])), (r2, .inr (9, [.int r2_day, .int r2_sits, .int r2_holds, .int r2_trials, .int r2_triedToday, .ref r2_dents, .ref r2_drops, .ref r2_how, .ref r2_triedOn, .ref r2_dropped, .ref r2_heldOn])), (aI ca r2_dents 10 F_r2_dents), (aI ca r1_tuned 40 F_r1_tuned), (aI ca r1_pitch 10 F_r1_pitch), (aI ca r1_tune 4 F_r1_tune)])) A) ([.ref h0, .ref r1, .ref r2, .int a3, .int a4] : List Value).toArray s 0 0 A) (F0 m 86 ls [.int y86_0]) := by
        intro y86_0 hy86_0 t86_y55_2 o86_y55_2_y55_0 H locs ls hP hD hS hl
        refine lv_istore (lv' := [(8, .int y86_0), (1, .ref r1), (2, .ref r2), (3, .int a3), (4, .int a4), (5, .int y55_0), (6, .int y55_1), (7, .int y55_2)]) hx hb dX0_fewestBeaten_86 hl (by decide) rfl (fun ls hl => ?_)
        refine lv_iload hx hb dX0_fewestBeaten_88 (lv_at hl 7 rfl) ?_
        refine lv_iload hx hb dX0_fewestBeaten_90 (lv_at hl 5 rfl) ?_
        refine lv_iconst (v := (-1)) hx hb dX0_fewestBeaten_92 (by decide) ?_
        refine lv_ixor hx hb dX0_fewestBeaten_93 ?_
        refine lv_topi (fun x_876 ex_876 => ?_)
        refine lv_iand hx hb dX0_fewestBeaten_94 ?_
        refine lv_topi (fun x_877 ex_877 => ?_)
        have h_878 : rg 0 1023 x_877 := by rw [ex_877]; exact rg_and t86_y55_2 (by decide) (by decide) (by decide)
        have o_879 : rl 0 x_877 y55_2 := by rw [ex_877]; exact rl_and t86_y55_2 (by decide)
        refine lv_if_ne (tgt := 124) hx hb dX0_fewestBeaten_95 (by decide) (fun c_880 => ?_) (fun c_880 => ?_)
        · skip
          have h_881 : rg 1 1023 x_877 := cl_nlo c_880 h_878 (show (0 : Int32).toInt = 0 by decide) (by decide) (by decide)
          exact J124_871 y55_1 hy55_1 t86_y55_2 o86_y55_2_y55_0 H locs ls (oPsub hP [0, 1, 2, 3, 4, 5, 6] rfl) (hD.sub [0, 1, 2, 3, 4, 5, 6] (by decide) rfl) hS (lv_sub hl [1, 2, 3, 4, 5, 6, 7] rfl)
        · skip
          have o_882 : rl 0 x_877 0 := rl_eq c_880
          have h_883 : rg 0 0 x_877 := rl_x o_882 h_878 (⟨by decide, by decide⟩ : rg 0 0 (0 : Int32)) (by decide) (by decide)
          have o_884 : rl 0 0 x_877 := rl_eq c_880.symm
          refine lv_iload hx hb dX0_fewestBeaten_98 (lv_at hl 0 rfl) ?_
          refine lv_if_eq (tgt := 124) hx hb dX0_fewestBeaten_100 (by decide) (fun c_885 => ?_) (fun c_885 => ?_)
          · skip
            have o_886 : rl 0 y86_0 0 := rl_eq c_885
            have h_887 : rg 0 0 y86_0 := rl_x o_886 hy86_0 (⟨by decide, by decide⟩ : rg 0 0 (0 : Int32)) (by decide) (by decide)
            have o_888 : rl 0 0 y86_0 := rl_eq c_885.symm
            exact J124_871 y55_1 hy55_1 t86_y55_2 o86_y55_2_y55_0 H locs ls (oPsub hP [0, 1, 2, 3, 4, 5, 6] rfl) (hD.sub [0, 1, 2, 3, 4, 5, 6] (by decide) rfl) hS (lv_sub hl [1, 2, 3, 4, 5, 6, 7] rfl)
          · skip
            have h_889 : rg 1 1 y86_0 := cl_nlo c_885 hy86_0 (show (0 : Int32).toInt = 0 by decide) (by decide) (by decide)
            refine lv_aload_n hx hb dX0_fewestBeaten_103 rfl (lv_at hl 2 rfl) ?_
            refine lv_aload_n hx hb dX0_fewestBeaten_104 rfl (lv_at hl 1 rfl) ?_
            refine lv_iload_n hx hb dX0_fewestBeaten_105 rfl (lv_at hl 3 rfl) ?_
            refine lv_iload hx hb dX0_fewestBeaten_106 (lv_at hl 4 rfl) ?_
            refine lv_iload hx hb dX0_fewestBeaten_108 (lv_at hl 7 rfl) ?_
            refine oC_i (Wc := [(r2, .inr (9, [.int r2_day, .int r2_sits, .int r2_holds, .int r2_trials, .int r2_triedToday, .ref r2_dents, .ref r2_drops, .ref r2_how, .ref r2_triedOn, .ref r2_dropped, .ref r2_heldOn])), (r1, .inr (5, [.int r1_jurors, .int r1_floors, .int r1_cases, .int r1_one, .int r1_dent, .int r1_seated, .ref r1_jurorName, .ref r1_floorName, .ref r1_caseName, .ref r1_pitch, .ref r1_length, .ref r1_hands, .ref r1_tune, .ref r1_dull, .ref r1_caseFloor, .ref r1_tuned])), (aI ca r1_tuned 40 F_r1_tuned), (aI ca r1_pitch 10 F_r1_pitch), (aI ca r1_tune 4 F_r1_tune), (aI ca r2_dents 10 F_r2_dents)]) (Wr := [(h0, .inr (0, [.ref h0_frees, .ref h0_low, .ref h0_high, .ref h0_letGoWeight, .ref h0_holdWeight, .ref h0_heardWith]))]) (va_runV (As := [.ref r1, .int a3, .int a4, .int y55_2]) (rest := []) ⟨hx, hb, hml, hown, hts⟩ (s_X9_apart l D ca H.size r2 r1 a3 a4 y55_2 r2_day r2_sits r2_holds r2_trials r2_triedToday r2_dents r2_drops r2_how r2_triedOn r2_dropped r2_heldOn r1_jurors r1_floors r1_cases r1_one r1_dent r1_seated r1_jurorName r1_floorName r1_caseName r1_pitch r1_length r1_hands r1_tune r1_dull r1_caseFloor r1_tuned F_r1_tuned F_r1_pitch F_r1_tune F_r2_dents i_a4 i_r2_sits i_r2_triedToday i_r1_jurors i_r1_floors i_r1_cases i_r1_seated) (cwV 4 hts gX0_fewestBeaten_X9_apart rfl rfl rfl (by decide +kernel) ⟨Nat.le_of_ble_eq_true rfl, Nat.le_of_ble_eq_true rfl⟩) (oPV (C := RX9) hK hP hD [2, 1, 4, 5, 6, 3] rfl (by decide) 0 rfl (ci := 9) rfl rfl) rfl rfl hl.1 rfl (lv_room (Nat.le_of_ble_eq_true rfl)) dX0_fewestBeaten_110 ⟨Nat.le_of_ble_eq_true rfl, Nat.le_of_ble_eq_true rfl⟩) hP hD hS hA [2, 1, 4, 5, 6, 3] [0] rfl rfl (by decide) (by decide) (fun r_890 u H locs w_891 hP hD hS => ?_)
            obtain ⟨⟩ := u
            have hP : va_P D vwCl [(h0, .inr (0, [.ref h0_frees, .ref h0_low, .ref h0_high, .ref h0_letGoWeight, .ref h0_holdWeight, .ref h0_heardWith])), (r2, .inr (9, [.int r2_day, .int r2_sits, .int r2_holds, .int r2_trials, .int r2_triedToday, .ref r2_dents, .ref r2_drops, .ref r2_how, .ref r2_triedOn, .ref r2_dropped, .ref r2_heldOn])), (r1, .inr (5, [.int r1_jurors, .int r1_floors, .int r1_cases, .int r1_one, .int r1_dent, .int r1_seated, .ref r1_jurorName, .ref r1_floorName, .ref r1_caseName, .ref r1_pitch, .ref r1_length, .ref r1_hands, .ref r1_tune, .ref r1_dull, .ref r1_caseFloor, .ref r1_tuned])), (aI ca r1_tuned 40 F_r1_tuned), (aI ca r1_pitch 10 F_r1_pitch), (aI ca r1_tune 4 F_r1_tune), (aI ca r2_dents 10 F_r2_dents)] H := hP
            have hD : va_D A [(h0, .inr (0, [.ref h0_frees, .ref h0_low, .ref h0_high, .ref h0_letGoWeight, .ref h0_holdWeight, .ref h0_heardWith])), (r2, .inr (9, [.int r2_day, .int r2_sits, .int r2_holds, .int r2_trials, .int r2_triedToday, .ref r2_dents, .ref r2_drops, .ref r2_how, .ref r2_triedOn, .ref r2_dropped, .ref r2_heldOn])), (r1, .inr (5, [.int r1_jurors, .int r1_floors, .int r1_cases, .int r1_one, .int r1_dent, .int r1_seated, .ref r1_jurorName, .ref r1_floorName, .ref r1_caseName, .ref r1_pitch, .ref r1_length, .ref r1_hands, .ref r1_tune, .ref r1_dull, .ref r1_caseFloor, .ref r1_tuned])), (aI ca r1_tuned 40 F_r1_tuned), (aI ca r1_pitch 10 F_r1_pitch), (aI ca r1_tune 4 F_r1_tune), (aI ca r2_dents 10 F_r2_dents)] := hD
            try dsimp only at w_891
            refine lv_aload_n hx hb dX0_fewestBeaten_113 rfl (lv_at hl 1 rfl) ?_
            refine va_get (D := D) (ci := 5) (v := .int r1_one) (C := RX5) (T := TX5) (N := 16) hx hb hts k2 hown hK.1 hP 2 rfl rfl 3 (by decide) k1 (fun _ h9 => h9) rfl dX0_fewestBeaten_114 ?_
            refine lv_icmp_gt (tgt := 124) hx hb dX0_fewestBeaten_117 (by decide) (fun c_892 => ?_) (fun c_892 => ?_)
            · skip
              have o_893 : rl 1 r1_one r_890 := rl_lt c_892
              have h_894 : rg (-2147483648) 2147483646 r1_one := rl_x o_893 (rga r1_one) (rga r_890) (by decide) (by decide)
              have h_895 : rg (-2147483647) 2147483647 r_890 := rl_y o_893 (rga r1_one) (rga r_890) (by decide) (by decide)
              exact J124_871 y55_1 hy55_1 t86_y55_2 o86_y55_2_y55_0 H locs ls (oPsub hP [0, 2, 1, 6, 3, 4, 5] rfl) (hD.sub [0, 2, 1, 6, 3, 4, 5] (by decide) rfl) hS (lv_sub hl [1, 2, 3, 4, 5, 6, 7] rfl)
            · skip
              have o_896 : rl 0 r_890 r1_one := rl_nlt c_892
              refine lv_iload hx hb dX0_fewestBeaten_120 (lv_at hl 7 rfl) ?_
              refine lv_istore (lv' := [(6, .int y55_2), (8, .int y86_0), (1, .ref r1), (2, .ref r2), (3, .int a3), (4, .int a4), (5, .int y55_0), (7, .int y55_2)]) hx hb dX0_fewestBeaten_122 hl (by decide) rfl (fun ls hl => ?_)
              exact J124_871 y55_2 (rgw (lo := (-1)) (hi := 1023) t86_y55_2 (by decide) (by decide)) t86_y55_2 o86_y55_2_y55_0 H locs ls (oPsub hP [0, 2, 1, 6, 3, 4, 5] rfl) (hD.sub [0, 2, 1, 6, 3, 4, 5] (by decide) rfl) hS (lv_sub hl [2, 3, 4, 5, 6, 0, 7] rfl)
      have J81_897 : ∀ (_ : Unit), rg 0 1023 y55_2 → rl 0 y55_2 y55_0 → ∀ (H : Heap) (locs : List Loc) (ls : Array Slot), va_P D vwCl [(h0, .inr (0, [.ref h0_frees, .ref h0_low, .ref h0_high, .ref h0_letGoWeight, .ref h0_holdWeight, .ref h0_heardWith])), (r1, .inr (5, [.int r1_jurors, .int r1_floors, .int r1_cases, .int r1_one, .int r1_dent, .int r1_seated, .ref r1_jurorName, .ref r1_floorName, .ref r1_caseName, .ref r1_pitch, .ref r1_length, .ref r1_hands, .ref r1_tune, .ref r1_dull, .ref r1_caseFloor, .ref r1_tuned])), (r2, .inr (9, [.int r2_day, .int r2_sits, .int r2_holds, .int r2_trials, .int r2_triedToday, .ref r2_dents, .ref r2_drops, .ref r2_how, .ref r2_triedOn, .ref r2_dropped, .ref r2_heldOn])), (aI ca r2_dents 10 F_r2_dents), (aI ca r1_tuned 40 F_r1_tuned), (aI ca r1_pitch 10 F_r1_pitch), (aI ca r1_tune 4 F_r1_tune)] H → va_D A [(h0, .inr (0, [.ref h0_frees, .ref h0_low, .ref h0_high, .ref h0_letGoWeight, .ref h0_holdWeight, .ref h0_heardWith])), (r1, .inr (5, [.int r1_jurors, .int r1_floors, .int r1_cases, .int r1_one, .int r1_dent, .int r1_seated, .ref r1_jurorName, .ref r1_floorName, .ref r1_caseName, .ref r1_pitch, .ref r1_length, .ref r1_hands, .ref r1_tune, .ref r1_dull, .ref r1_caseFloor, .ref r1_tuned])), (r2, .inr (9, [.int r2_day, .int r2_sits, .int r2_holds, .int r2_trials, .int r2_triedToday, .ref r2_dents, .ref r2_drops, .ref r2_how, .ref r2_triedOn, .ref r2_dropped, .ref r2_heldOn])), (aI ca r2_dents 10 F_r2_dents), (aI ca r1_tuned 40 F_r1_tuned), (aI ca r1_pitch 10 F_r1_pitch), (aI ca r1_tune 4 F_r1_tune)] → va_S A s.heap H locs → lv_has ls 9 [(1, .ref r1), (2, .ref r2), (3, .int a3), (4, .int a4), (5, .int y55_0), (6, .int y55_1), (7, .int y55_2)] → W p l e ({ frames := 3, cells := 0, slots := 0, locals := 75 } : Room) s m ([.ref h0, .ref r1, .ref r2, .int a3, .int a4] : List Value).toArray below meth c H locs 0 0 (MQ below ((oQi D (fun (r : Int32) (u : Unit) => (rg (-1) 1023 r)) (fun (u : Unit) => [(h0, .inr (0, [.ref h0_frees, .ref h0_low, .ref h0_high, .ref h0_letGoWeight, .ref h0_holdWeight, .ref h0_heardWith])), (r1, .inr (5, [.int r1_jurors, .int r1_floors, .int r1_cases, .int r1_one, .int r1_dent, .int r1_seated, .ref r1_jurorName, .ref r1_floorName, .ref r1_caseName, .ref r1_pitch, .ref r1_length, .ref r1_hands, .ref r1_tune, .ref r1_dull, .ref r1_caseFloor, .ref r1_tuned])), (r2, .inr (9, [.int r2_day, .int r2_sits, .int r2_holds, .int r2_trials, .int r2_triedToday, .ref r2_dents, .ref r2_drops, .ref r2_how, .ref r2_triedOn, .ref r2_dropped, .ref r2_heldOn])), (aI ca r2_dents 10 F_r2_dents), (aI ca r1_tuned 40 F_r1_tuned), (aI ca r1_pitch 10 F_r1_pitch), (aI ca r1_tune 4 F_r1_tune)])) A) ([.ref h0, .ref r1, .ref r2, .int a3, .int a4] : List Value).toArray s 0 0 A) (F0 m 81 ls []) := by
        intro _ t81_y55_2 o81_y55_2_y55_0 H locs ls hP hD hS hl
        refine lv_iconst (v := 1) hx hb dX0_fewestBeaten_81 (by decide) ?_
        refine lv_goto (tgt := 86) hx hb dX0_fewestBeaten_82 (by decide) ?_
        exact J86_875 1 (⟨by decide, by decide⟩ : rg 0 1 (1 : Int32)) t81_y55_2 o81_y55_2_y55_0 H locs ls (oPsub hP [0, 1, 2, 3, 4, 5, 6] rfl) (hD.sub [0, 1, 2, 3, 4, 5, 6] (by decide) rfl) hS (lv_sub hl [0, 1, 2, 3, 4, 5, 6] rfl)
      refine lv_iload hx hb dX0_fewestBeaten_55 (lv_at hl 6 rfl) ?_
      refine lv_iload hx hb dX0_fewestBeaten_57 (lv_at hl 4 rfl) ?_
      refine lv_icmp_gt (tgt := 130) hx hb dX0_fewestBeaten_59 (by decide) (fun c_898 => ?_) (fun c_898 => ?_)
      · skip
        have o_899 : rl 1 y55_0 y55_2 := rl_lt c_898
        have h_900 : rg 1 1024 y55_2 := rl_y o_899 hy55_0 hy55_2 (by decide) (by decide)
        refine lv_iload hx hb dX0_fewestBeaten_130 (lv_at hl 5 rfl) ?_
        exact oE_i hx hb hr rfl hlocks hP hD hS () [0, 1, 2, 3, 4, 5, 6] rfl (by decide) hy55_1 (Nat.le_of_ble_eq_true rfl) (Nat.le_of_ble_eq_true rfl) dX0_fewestBeaten_132
      · skip
        have o_901 : rl 0 y55_2 y55_0 := rl_nlt c_898
        have h_902 : rg 0 1023 y55_2 := rl_x o_901 hy55_2 hy55_0 (by decide) (by decide)
        refine lv_iload hx hb dX0_fewestBeaten_62 (lv_at hl 5 rfl) ?_
        refine lv_iconst (v := (-1)) hx hb dX0_fewestBeaten_64 (by decide) ?_
        refine lv_icmp_eq (tgt := 81) hx hb dX0_fewestBeaten_65 (by decide) (fun c_903 => ?_) (fun c_903 => ?_)
        · skip
          have o_904 : rl 0 y55_1 (-1) := rl_eq c_903
          have h_905 : rg (-1) (-1) y55_1 := rl_x o_904 hy55_1 (⟨by decide, by decide⟩ : rg (-1) (-1) ((-1) : Int32)) (by decide) (by decide)
          have o_906 : rl 0 (-1) y55_1 := rl_eq c_903.symm
          exact J81_897 () h_902 o_901 H locs ls (oPsub hP [0, 1, 2, 3, 4, 5, 6] rfl) (hD.sub [0, 1, 2, 3, 4, 5, 6] (by decide) rfl) hS (lv_sub hl [0, 1, 2, 3, 4, 5, 6] rfl)
        · skip
          have h_907 : rg 0 1023 y55_1 := cl_nlo c_903 hy55_1 (show ((-1) : Int32).toInt = (-1) by decide) (by decide) (by decide)
          refine lv_iload hx hb dX0_fewestBeaten_68 (lv_at hl 6 rfl) ?_
          refine oC_i (Wc := []) (Wr := [(h0, .inr (0, [.ref h0_frees, .ref h0_low, .ref h0_high, .ref h0_letGoWeight, .ref h0_holdWeight, .ref h0_heardWith])), (r1, .inr (5, [.int r1_jurors, .int r1_floors, .int r1_cases, .int r1_one, .int r1_dent, .int r1_seated, .ref r1_jurorName, .ref r1_floorName, .ref r1_caseName, .ref r1_pitch, .ref r1_length, .ref r1_hands, .ref r1_tune, .ref r1_dull, .ref r1_caseFloor, .ref r1_tuned])), (r2, .inr (9, [.int r2_day, .int r2_sits, .int r2_holds, .int r2_trials, .int r2_triedToday, .ref r2_dents, .ref r2_drops, .ref r2_how, .ref r2_triedOn, .ref r2_dropped, .ref r2_heldOn])), (aI ca r2_dents 10 F_r2_dents), (aI ca r1_tuned 40 F_r1_tuned), (aI ca r1_pitch 10 F_r1_pitch), (aI ca r1_tune 4 F_r1_tune)]) (va_runS (As := [.int y55_2]) (rest := []) ⟨hx, hb, hml, hown, hts⟩ (s_J6_bitCount_0f7a4 l D ca H.size y55_2) (va_cwS 1 hts gX0_fewestBeaten_J6_bitCount_0f7a4 rfl rfl rfl (by decide +kernel) ⟨Nat.le_of_ble_eq_true rfl, Nat.le_of_ble_eq_true rfl⟩) (oPS hK hP hD [] rfl (by decide)) rfl rfl hl.1 rfl (lv_room (Nat.le_of_ble_eq_true rfl)) dX0_fewestBeaten_70 ⟨Nat.le_of_ble_eq_true rfl, Nat.le_of_ble_eq_true rfl⟩) hP hD hS hA [] [0, 1, 2, 3, 4, 5, 6] rfl rfl (by decide) (by decide) (fun r_908 u H locs w_909 hP hD hS => ?_)
          obtain ⟨⟩ := u
          have hP : va_P D vwCl [(h0, .inr (0, [.ref h0_frees, .ref h0_low, .ref h0_high, .ref h0_letGoWeight, .ref h0_holdWeight, .ref h0_heardWith])), (r1, .inr (5, [.int r1_jurors, .int r1_floors, .int r1_cases, .int r1_one, .int r1_dent, .int r1_seated, .ref r1_jurorName, .ref r1_floorName, .ref r1_caseName, .ref r1_pitch, .ref r1_length, .ref r1_hands, .ref r1_tune, .ref r1_dull, .ref r1_caseFloor, .ref r1_tuned])), (r2, .inr (9, [.int r2_day, .int r2_sits, .int r2_holds, .int r2_trials, .int r2_triedToday, .ref r2_dents, .ref r2_drops, .ref r2_how, .ref r2_triedOn, .ref r2_dropped, .ref r2_heldOn])), (aI ca r2_dents 10 F_r2_dents), (aI ca r1_tuned 40 F_r1_tuned), (aI ca r1_pitch 10 F_r1_pitch), (aI ca r1_tune 4 F_r1_tune)] H := hP
          have hD : va_D A [(h0, .inr (0, [.ref h0_frees, .ref h0_low, .ref h0_high, .ref h0_letGoWeight, .ref h0_holdWeight, .ref h0_heardWith])), (r1, .inr (5, [.int r1_jurors, .int r1_floors, .int r1_cases, .int r1_one, .int r1_dent, .int r1_seated, .ref r1_jurorName, .ref r1_floorName, .ref r1_caseName, .ref r1_pitch, .ref r1_length, .ref r1_hands, .ref r1_tune, .ref r1_dull, .ref r1_caseFloor, .ref r1_tuned])), (r2, .inr (9, [.int r2_day, .int r2_sits, .int r2_holds, .int r2_trials, .int r2_triedToday, .ref r2_dents, .ref r2_drops, .ref r2_how, .ref r2_triedOn, .ref r2_dropped, .ref r2_heldOn])), (aI ca r2_dents 10 F_r2_dents), (aI ca r1_tuned 40 F_r1_tuned), (aI ca r1_pitch 10 F_r1_pitch), (aI ca r1_tune 4 F_r1_tune)] := hD
          try dsimp only at w_909
          have h_910 := w_909
          refine lv_iload hx hb dX0_fewestBeaten_73 (lv_at hl 5 rfl) ?_
          refine oC_i (Wc := []) (Wr := [(h0, .inr (0, [.ref h0_frees, .ref h0_low, .ref h0_high, .ref h0_letGoWeight, .ref h0_holdWeight, .ref h0_heardWith])), (r1, .inr (5, [.int r1_jurors, .int r1_floors, .int r1_cases, .int r1_one, .int r1_dent, .int r1_seated, .ref r1_jurorName, .ref r1_floorName, .ref r1_caseName, .ref r1_pitch, .ref r1_length, .ref r1_hands, .ref r1_tune, .ref r1_dull, .ref r1_caseFloor, .ref r1_tuned])), (r2, .inr (9, [.int r2_day, .int r2_sits, .int r2_holds, .int r2_trials, .int r2_triedToday, .ref r2_dents, .ref r2_drops, .ref r2_how, .ref r2_triedOn, .ref r2_dropped, .ref r2_heldOn])), (aI ca r2_dents 10 F_r2_dents), (aI ca r1_tuned 40 F_r1_tuned), (aI ca r1_pitch 10 F_r1_pitch), (aI ca r1_tune 4 F_r1_tune)]) (va_runS (As := [.int y55_1]) (rest := [.int r_908]) ⟨hx, hb, hml, hown, hts⟩ (s_J6_bitCount_0f7a4 l D ca H.size y55_1) (va_cwS 1 hts gX0_fewestBeaten_J6_bitCount_0f7a4 rfl rfl rfl (by decide +kernel) ⟨Nat.le_of_ble_eq_true rfl, Nat.le_of_ble_eq_true rfl⟩) (oPS hK hP hD [] rfl (by decide)) rfl rfl hl.1 rfl (lv_room (Nat.le_of_ble_eq_true rfl)) dX0_fewestBeaten_75 ⟨Nat.le_of_ble_eq_true rfl, Nat.le_of_ble_eq_true rfl⟩) hP hD hS hA [] [0, 1, 2, 3, 4, 5, 6] rfl rfl (by decide) (by decide) (fun r_911 u H locs w_912 hP hD hS => ?_)
          obtain ⟨⟩ := u
          have hP : va_P D vwCl [(h0, .inr (0, [.ref h0_frees, .ref h0_low, .ref h0_high, .ref h0_letGoWeight, .ref h0_holdWeight, .ref h0_heardWith])), (r1, .inr (5, [.int r1_jurors, .int r1_floors, .int r1_cases, .int r1_one, .int r1_dent, .int r1_seated, .ref r1_jurorName, .ref r1_floorName, .ref r1_caseName, .ref r1_pitch, .ref r1_length, .ref r1_hands, .ref r1_tune, .ref r1_dull, .ref r1_caseFloor, .ref r1_tuned])), (r2, .inr (9, [.int r2_day, .int r2_sits, .int r2_holds, .int r2_trials, .int r2_triedToday, .ref r2_dents, .ref r2_drops, .ref r2_how, .ref r2_triedOn, .ref r2_dropped, .ref r2_heldOn])), (aI ca r2_dents 10 F_r2_dents), (aI ca r1_tuned 40 F_r1_tuned), (aI ca r1_pitch 10 F_r1_pitch), (aI ca r1_tune 4 F_r1_tune)] H := hP
          have hD : va_D A [(h0, .inr (0, [.ref h0_frees, .ref h0_low, .ref h0_high, .ref h0_letGoWeight, .ref h0_holdWeight, .ref h0_heardWith])), (r1, .inr (5, [.int r1_jurors, .int r1_floors, .int r1_cases, .int r1_one, .int r1_dent, .int r1_seated, .ref r1_jurorName, .ref r1_floorName, .ref r1_caseName, .ref r1_pitch, .ref r1_length, .ref r1_hands, .ref r1_tune, .ref r1_dull, .ref r1_caseFloor, .ref r1_tuned])), (r2, .inr (9, [.int r2_day, .int r2_sits, .int r2_holds, .int r2_trials, .int r2_triedToday, .ref r2_dents, .ref r2_drops, .ref r2_how, .ref r2_triedOn, .ref r2_dropped, .ref r2_heldOn])), (aI ca r2_dents 10 F_r2_dents), (aI ca r1_tuned 40 F_r1_tuned), (aI ca r1_pitch 10 F_r1_pitch), (aI ca r1_tune 4 F_r1_tune)] := hD
          try dsimp only at w_912
          have h_913 := w_912
          refine lv_icmp_ge (tgt := 85) hx hb dX0_fewestBeaten_78 (by decide) (fun c_914 => ?_) (fun c_914 => ?_)
          · skip
            have o_915 : rl 0 r_911 r_908 := rl_le c_914
            refine lv_iconst (v := 0) hx hb dX0_fewestBeaten_85 (by decide) ?_
            exact J86_875 0 (⟨by decide, by decide⟩ : rg 0 1 (0 : Int32)) h_902 o_901 H locs ls (oPsub hP [0, 1, 2, 3, 4, 5, 6] rfl) (hD.sub [0, 1, 2, 3, 4, 5, 6] (by decide) rfl) hS (lv_sub hl [0, 1, 2, 3, 4, 5, 6] rfl)
          · skip
            have o_916 : rl 1 r_908 r_911 := rl_nle c_914
            have h_917 : rg 0 62 r_908 := rl_x o_916 h_910 h_913 (by decide) (by decide)
            have h_918 : rg 1 63 r_911 := rl_y o_916 h_910 h_913 (by decide) (by decide)
            exact J81_897 () h_902 o_901 H locs ls (oPsub hP [0, 1, 2, 3, 4, 5, 6] rfl) (hD.sub [0, 1, 2, 3, 4, 5, 6] (by decide) rfl) hS (lv_sub hl [0, 1, 2, 3, 4, 5, 6] rfl)
  have J6_919 : ∀ (n : Nat) (y6_0 : Int32) (y6_1 : Int32), True → rg 0 1023 y6_0 → rg 0 10 y6_1 → 10 < y6_1.toInt + (n : Int) → ∀ (H : Heap) (locs : List Loc) (ls : Array Slot), va_P D vwCl [(h0, .inr (0, [.ref h0_frees, .ref h0_low, .ref h0_high, .ref h0_letGoWeight, .ref h0_holdWeight, .ref h0_heardWith])), (r1, .inr (5, [.int r1_jurors, .int r1_floors, .int r1_cases, .int r1_one, .int r1_dent, .int r1_seated, .ref r1_jurorName, .ref r1_floorName, .ref r1_caseName, .ref r1_pitch, .ref r1_length, .ref r1_hands, .ref r1_tune, .ref r1_dull, .ref r1_caseFloor, .ref r1_tuned])), (r2, .inr (9, [.int r2_day, .int r2_sits, .int r2_holds, .int r2_trials, .int r2_triedToday, .ref r2_dents, .ref r2_drops, .ref r2_how, .ref r2_triedOn, .ref r2_dropped, .ref r2_heldOn])), (aI ca r2_dents 10 F_r2_dents), (aI ca r1_tuned 40 F_r1_tuned), (aI ca r1_pitch 10 F_r1_pitch), (aI ca r1_tune 4 F_r1_tune)] H → va_D A [(h0, .inr (0, [.ref h0_frees, .ref h0_low, .ref h0_high, .ref h0_letGoWeight, .ref h0_holdWeight, .ref h0_heardWith])), (r1, .inr (5, [.int r1_jurors, .int r1_floors, .int r1_cases, .int r1_one, .int r1_dent, .int r1_seated, .ref r1_jurorName, .ref r1_floorName, .ref r1_caseName, .ref r1_pitch, .ref r1_length, .ref r1_hands, .ref r1_tune, .ref r1_dull, .ref r1_caseFloor, .ref r1_tuned])), (r2, .inr (9, [.int r2_day, .int r2_sits, .int r2_holds, .int r2_trials, .int r2_triedToday, .ref r2_dents, .ref r2_drops, .ref r2_how, .ref r2_triedOn, .ref r2_dropped, .ref r2_heldOn])), (aI ca r2_dents 10 F_r2_dents), (aI ca r1_tuned 40 F_r1_tuned), (aI ca r1_pitch 10 F_r1_pitch), (aI ca r1_tune 4 F_r1_tune)] → va_S A s.heap H locs → lv_has ls 9 [(1, .ref r1), (2, .ref r2), (3, .int a3), (4, .int a4), (5, .int y6_0), (6, .int y6_1)] → W p l e ({ frames := 3, cells := 0, slots := 0, locals := 75 } : Room) s m ([.ref h0, .ref r1, .ref r2, .int a3, .int a4] : List Value).toArray below meth c H locs 0 0 (MQ below ((oQi D (fun (r : Int32) (u : Unit) => (rg (-1) 1023 r)) (fun (u : Unit) => [(h0, .inr (0, [.ref h0_frees, .ref h0_low, .ref h0_high, .ref h0_letGoWeight, .ref h0_holdWeight, .ref h0_heardWith])), (r1, .inr (5, [.int r1_jurors, .int r1_floors, .int r1_cases, .int r1_one, .int r1_dent, .int r1_seated, .ref r1_jurorName, .ref r1_floorName, .ref r1_caseName, .ref r1_pitch, .ref r1_length, .ref r1_hands, .ref r1_tune, .ref r1_dull, .ref r1_caseFloor, .ref r1_tuned])), (r2, .inr (9, [.int r2_day, .int r2_sits, .int r2_holds, .int r2_trials, .int r2_triedToday, .ref r2_dents, .ref r2_drops, .ref r2_how, .ref r2_triedOn, .ref r2_dropped, .ref r2_heldOn])), (aI ca r2_dents 10 F_r2_dents), (aI ca r1_tuned 40 F_r1_tuned), (aI ca r1_pitch 10 F_r1_pitch), (aI ca r1_tune 4 F_r1_tune)])) A) ([.ref h0, .ref r1, .ref r2, .int a3, .int a4] : List Value).toArray s 0 0 A) (F0 m 6 ls []) := by
    intro n
    induction n with
    | zero => intro y6_0 y6_1 _ hy6_0 hy6_1 hn; exact absurd hn (by have q9 := hy6_1.2; omega)
    | succ n ih =>
      intro y6_0 y6_1 _ hy6_0 hy6_1 hn H locs ls hP hD hS hl
      have J43_946 : ∀ (y43_0 : Int32), rg 0 1023 y43_0 → rg 1 10 r1_jurors → rg 0 9 y6_1 → rl 1 y6_1 r1_jurors → ∀ (H : Heap) (locs : List Loc) (ls : Array Slot), va_P D vwCl [(h0, .inr (0, [.ref h0_frees, .ref h0_low, .ref h0_high, .ref h0_letGoWeight, .ref h0_holdWeight, .ref h0_heardWith])), (r1, .inr (5, [.int r1_jurors, .int r1_floors, .int r1_cases, .int r1_one, .int r1_dent, .int r1_seated, .ref r1_jurorName, .ref r1_floorName, .ref r1_caseName, .ref r1_pitch, .ref r1_length, .ref r1_hands, .ref r1_tune, .ref r1_dull, .ref r1_caseFloor, .ref r1_tuned])), (r2, .inr (9, [.int r2_day, .int r2_sits, .int r2_holds, .int r2_trials, .int r2_triedToday, .ref r2_dents, .ref r2_drops, .ref r2_how, .ref r2_triedOn, .ref r2_dropped, .ref r2_heldOn])), (aI ca r2_dents 10 F_r2_dents), (aI ca r1_tuned 40 F_r1_tuned), (aI ca r1_pitch 10 F_r1_pitch), (aI ca r1_tune 4 F_r1_tune)] H → va_D A [(h0, .inr (0, [.ref h0_frees, .ref h0_low, .ref h0_high, .ref h0_letGoWeight, .ref h0_holdWeight, .ref h0_heardWith])), (r1, .inr (5, [.int r1_jurors, .int r1_floors, .int r1_cases, .int r1_one, .int r1_dent, .int r1_seated, .ref r1_jurorName, .ref r1_floorName, .ref r1_caseName, .ref r1_pitch, .ref r1_length, .ref r1_hands, .ref r1_tune, .ref r1_dull, .ref r1_caseFloor, .ref r1_tuned])), (r2, .inr (9, [.int r2_day, .int r2_sits, .int r2_holds, .int r2_trials, .int r2_triedToday, .ref r2_dents, .ref r2_drops, .ref r2_how, .ref r2_triedOn, .ref r2_dropped, .ref r2_heldOn])), (aI ca r2_dents 10 F_r2_dents), (aI ca r1_tuned 40 F_r1_tuned), (aI ca r1_pitch 10 F_r1_pitch), (aI ca r1_tune 4 F_r1_tune)] → va_S A s.heap H locs → lv_has ls 9 [(1, .ref r1), (2, .ref r2), (3, .int a3), (4, .int a4), (5, .int y43_0), (6, .int y6_1)] → W p l e ({ frames := 3, cells := 0, slots := 0, locals := 75 } : Room) s m ([.ref h0, .ref r1, .ref r2, .int a3, .int a4] : List Value).toArray below meth c H locs 0 0 (MQ below ((oQi D (fun (r : Int32) (u : Unit) => (rg (-1) 1023 r)) (fun (u : Unit) => [(h0, .inr (0, [.ref h0_frees, .ref h0_low, .ref h0_high, .ref h0_letGoWeight, .ref h0_holdWeight, .ref h0_heardWith])), (r1, .inr (5, [.int r1_jurors, .int r1_floors, .int r1_cases, .int r1_one, .int r1_dent, .int r1_seated, .ref r1_jurorName, .ref r1_floorName, .ref r1_caseName, .ref r1_pitch, .ref r1_length, .ref r1_hands, .ref r1_tune, .ref r1_dull, .ref r1_caseFloor, .ref r1_tuned])), (r2, .inr (9, [.int r2_day, .int r2_sits, .int r2_holds, .int r2_trials, .int r2_triedToday, .ref r2_dents, .ref r2_drops, .ref r2_how, .ref r2_triedOn, .ref r2_dropped, .ref r2_heldOn])), (aI ca r2_dents 10 F_r2_dents), (aI ca r1_tuned 40 F_r1_tuned), (aI ca r1_pitch 10 F_r1_pitch), (aI ca r1_tune 4 F_r1_tune)])) A) ([.ref h0, .ref r1, .ref r2, .int a3, .int a4] : List Value).toArray s 0 0 A) (F0 m 43 ls []) := by
        intro y43_0 hy43_0 t43_r1_jurors t43_y6_1 o43_y6_1_r1_jurors H locs ls hP hD hS hl
        obtain ⟨x_947, ex_947⟩ : ∃ y : Int32, y = y6_1 + 1 := ⟨_, rfl⟩
        have h_948 : rg 1 10 x_947 := by rw [ex_947]; exact rg_add t43_y6_1 (⟨by decide, by decide⟩ : rg 1 1 (1 : Int32)) (by decide) (by decide) (by decide) (by decide)
        have l_949 : lq x_947.toInt (y6_1.toInt + 1) := lqm (by rw [ex_947]; have q := tadd t43_y6_1 (⟨by decide, by decide⟩ : rg 1 1 (1 : Int32)) (by decide) (by decide); have r1 := lqe (lqm (by decide) : lq (1 : Int32).toInt 1); omega)
        refine lv_iinc (v := x_947) (lv' := [(6, .int x_947), (1, .ref r1), (2, .ref r2), (3, .int a3), (4, .int a4), (5, .int y43_0)]) hx hb dX0_fewestBeaten_43 hl (k := 5) rfl (by rw [ex_947]; rfl) (by decide) rfl (fun ls hl => ?_)
        refine lv_goto (tgt := 6) hx hb dX0_fewestBeaten_46 (by decide) ?_
        exact ih y43_0 x_947 trivial hy43_0 (rgw (lo := 0) (hi := 10) h_948 (by decide) (by decide)) (by have q0 := lqe l_949; omega) H locs ls (oPsub hP [0, 1, 2, 3, 4, 5, 6] rfl) (hD.sub [0, 1, 2, 3, 4, 5, 6] (by decide) rfl) hS (lv_sub hl [1, 2, 3, 4, 5, 0] rfl)
      refine lv_iload hx hb dX0_fewestBeaten_6 (lv_at hl 5 rfl) ?_
      refine lv_aload_n hx hb dX0_fewestBeaten_8 rfl (lv_at hl 0 rfl) ?_
      refine va_get (D := D) (ci := 5) (v := .int r1_jurors) (C := RX5) (T := TX5) (N := 16) hx hb hts k2 hown hK.1 hP 1 rfl rfl 0 (by decide) k3 (fun _ h9 => h9) rfl dX0_fewestBeaten_9 ?_
      refine lv_icmp_ge (tgt := 49) hx hb dX0_fewestBeaten_12 (by decide) (fun c_950 => ?_) (fun c_950 => ?_)
      · skip
        have o_951 : rl 0 r1_jurors y6_1 := rl_le c_950
        refine lv_iconst (v := (-1)) hx hb dX0_fewestBeaten_49 (by decide) ?_
        refine lv_istore (lv' := [(6, .int (-1)), (1, .ref r1), (2, .ref r2), (3, .int a3), (4, .int a4), (5, .int y6_0)]) hx hb dX0_fewestBeaten_50 hl (by decide) rfl (fun ls hl => ?_)
        refine lv_iconst (v := 0) hx hb dX0_fewestBeaten_52 (by decide) ?_
        refine lv_istore (lv' := [(7, .int 0), (6, .int (-1)), (1, .ref r1), (2, .ref r2), (3, .int a3), (4, .int a4), (5, .int y6_0)]) hx hb dX0_fewestBeaten_53 hl (by decide) rfl (fun ls hl => ?_)
        exact J55_825 1025 y6_0 (-1) 0 trivial hy6_0 (⟨by decide, by decide⟩ : rg (-1) 1023 ((-1) : Int32)) (⟨by decide, by decide⟩ : rg 0 1024 (0 : Int32)) (by have q0 := (⟨by decide, by decide⟩ : rg 0 0 (0 : Int32)).1; omega) H locs ls (oPsub hP [0, 1, 2, 3, 4, 5, 6] rfl) (hD.sub [0, 1, 2, 3, 4, 5, 6] (by decide) rfl) hS (lv_sub hl [2, 3, 4, 5, 6, 1, 0] rfl)
      · skip
        have o_952 : rl 1 y6_1 r1_jurors := rl_nle c_950
        have h_953 : rg 0 9 y6_1 := rl_x o_952 hy6_1 i_r1_jurors (by decide) (by decide)
        have h_954 : rg 1 10 r1_jurors := rl_y o_952 hy6_1 i_r1_jurors (by decide) (by decide)
        refine lv_iload_n hx hb dX0_fewestBeaten_15 rfl (lv_at hl 2 rfl) ?_
        refine lv_iload hx hb dX0_fewestBeaten_16 (lv_at hl 5 rfl) ?_
        refine lv_ishr hx hb dX0_fewestBeaten_18 ?_
        refine lv_topi (fun x_955 ex_955 => ?_)
        refine lv_iconst (v := 1) hx hb dX0_fewestBeaten_19 (by decide) ?_
        refine lv_iand hx hb dX0_fewestBeaten_20 ?_
        refine lv_topi (fun x_956 ex_956 => ?_)
        have h_957 : rg 0 1 x_956 := by rw [ex_956]; exact rg_and' (⟨by decide, by decide⟩ : rg 1 1 (1 : Int32)) (by decide) (by decide) (by decide)
        refine lv_if_eq (tgt := 43) hx hb dX0_fewestBeaten_21 (by decide) (fun c_958 => ?_) (fun c_958 => ?_)
        · skip
          have o_959 : rl 0 x_956 0 := rl_eq c_958
          have h_960 : rg 0 0 x_956 := rl_x o_959 h_957 (⟨by decide, by decide⟩ : rg 0 0 (0 : Int32)) (by decide) (by decide)
          have o_961 : rl 0 0 x_956 := rl_eq c_958.symm
          exact J43_946 y6_0 hy6_0 h_954 h_953 o_952 H locs ls (oPsub hP [0, 1, 2, 3, 4, 5, 6] rfl) (hD.sub [0, 1, 2, 3, 4, 5, 6] (by decide) rfl) hS (lv_sub hl [0, 1, 2, 3, 4, 5] rfl)
        · skip
          have h_962 : rg 1 1 x_956 := cl_nlo c_958 h_957 (show (0 : Int32).toInt = 0 by decide) (by decide) (by decide)
          refine lv_aload_n hx hb dX0_fewestBeaten_24 rfl (lv_at hl 1 rfl) ?_
          refine va_get (D := D) (ci := 9) (v := .ref r2_dents) (C := RX9) (T := TX9) (N := 11) hx hb hts k5 hown hK.1 hP 2 rfl rfl 5 (by decide) k4 (fun _ h9 => h9) rfl dX0_fewestBeaten_25 ?_
          refine lv_iload hx hb dX0_fewestBeaten_28 (lv_at hl 5 rfl) ?_
          refine va_iald hx hb hK.1 hP 3 0 rfl rfl (rg_in h_953 (by decide) (by decide)) dX0_fewestBeaten_30 ?_
          refine lv_topi (fun x_963 ex_963 => ?_)
          refine lv_if_le (tgt := 43) hx hb dX0_fewestBeaten_31 (by decide) (fun c_964 => ?_) (fun c_964 => ?_)
          · skip
            have o_965 : rl 0 x_963 0 := rl_le c_964
            have h_966 : rg (-2147483648) 0 x_963 := rl_x o_965 (rga x_963) (⟨by decide, by decide⟩ : rg 0 0 (0 : Int32)) (by decide) (by decide)
            exact J43_946 y6_0 hy6_0 h_954 h_953 o_952 H locs ls (oPsub hP [0, 1, 2, 3, 4, 5, 6] rfl) (hD.sub [0, 1, 2, 3, 4, 5, 6] (by decide) rfl) hS (lv_sub hl [0, 1, 2, 3, 4, 5] rfl)
          · skip
            have o_967 : rl 1 0 x_963 := rl_nle c_964
            have h_968 : rg 1 2147483647 x_963 := rl_y o_967 (⟨by decide, by decide⟩ : rg 0 0 (0 : Int32)) (rga x_963) (by decide) (by decide)
            refine lv_iload hx hb dX0_fewestBeaten_34 (lv_at hl 4 rfl) ?_
            refine lv_iconst (v := 1) hx hb dX0_fewestBeaten_36 (by decide) ?_
            refine lv_iload hx hb dX0_fewestBeaten_37 (lv_at hl 5 rfl) ?_
            refine lv_ishl hx hb dX0_fewestBeaten_39 ?_
            refine lv_topi (fun x_969 ex_969 => ?_)
            have h_970 : rg 1 512 x_969 := by rw [ex_969]; exact rg_shl1 h_953 (by decide) (by decide) (by decide) (by decide)
            refine lv_ior hx hb dX0_fewestBeaten_40 ?_
            refine lv_topi (fun x_971 ex_971 => ?_)
            have h_972 : rg 0 1023 x_971 := by rw [ex_971]; exact rg_or 10 hy6_0 h_970 (by decide) (by decide) (by decide) (by decide) (by decide) (by decide) (by decide)
            refine lv_istore (lv' := [(5, .int x_971), (1, .ref r1), (2, .ref r2), (3, .int a3), (4, .int a4), (6, .int y6_1)]) hx hb dX0_fewestBeaten_41 hl (by decide) rfl (fun ls hl => ?_)
            exact J43_946 x_971 h_972 h_954 h_953 o_952 H locs ls (oPsub hP [0, 1, 2, 3, 4, 5, 6] rfl) (hD.sub [0, 1, 2, 3, 4, 5, 6] (by decide) rfl) hS (lv_sub hl [1, 2, 3, 4, 0, 5] rfl)
  refine lv_iconst (v := 0) hx hb dX0_fewestBeaten_0 (by decide) ?_
  refine lv_istore (lv' := [(5, .int 0), (0, .ref h0), (1, .ref r1), (2, .ref r2), (3, .int a3), (4, .int a4)]) hx hb dX0_fewestBeaten_1 hl (by decide) rfl (fun ls hl => ?_)
  refine lv_iconst (v := 0) hx hb dX0_fewestBeaten_3 (by decide) ?_
  refine lv_istore (lv' := [(6, .int 0), (5, .int 0), (0, .ref h0), (1, .ref r1), (2, .ref r2), (3, .int a3), (4, .int a4)]) hx hb dX0_fewestBeaten_4 hl (by decide) rfl (fun ls hl => ?_)
  exact J6_919 11 0 0 trivial (⟨by decide, by decide⟩ : rg 0 1023 (0 : Int32)) (⟨by decide, by decide⟩ : rg 0 10 (0 : Int32)) (by have q0 := (⟨by decide, by decide⟩ : rg 0 0 (0 : Int32)).1; omega) H locs ls (oPsub hP [0, 1, 2, 3, 4, 5, 6] rfl) (hD.sub [0, 1, 2, 3, 4, 5, 6] (by decide) rfl) hS (lv_sub hl [3, 4, 5, 6, 1, 0] rfl)
theorem dX11_beats_0 : decode cX11_beats 0 = .ok (.aload_n 0, 1) := by decide +kernel
theorem dX11_beats_1 : decode cX11_beats 1 = .ok (.getfield 26, 3) := by decide +kernel
theorem dX11_beats_4 : decode cX11_beats 4 = .ok (.invokevirtual 233, 3) := by decide +kernel
theorem dX11_beats_7 : decode cX11_beats 7 = .ok (.istore_n 2, 1) := by decide +kernel
theorem dX11_beats_8 : decode cX11_beats 8 = .ok (.aload_n 0, 1) := by decide +kernel
theorem dX11_beats_9 : decode cX11_beats 9 = .ok (.iload_n 1, 1) := by decide +kernel
theorem dX11_beats_10 : decode cX11_beats 10 = .ok (.invokevirtual 164, 3) := by decide +kernel
theorem dX11_beats_13 : decode cX11_beats 13 = .ok (.ifCond .eq 7, 3) := by decide +kernel
theorem dX11_beats_16 : decode cX11_beats 16 = .ok (.iload_n 2, 1) := by decide +kernel
theorem dX11_beats_17 : decode cX11_beats 17 = .ok (.ifCond .ne 5, 3) := by decide +kernel
theorem dX11_beats_20 : decode cX11_beats 20 = .ok (.iconst (-1), 1) := by decide +kernel
theorem dX11_beats_21 : decode cX11_beats 21 = .ok (.ireturn, 1) := by decide +kernel
theorem dX11_beats_22 : decode cX11_beats 22 = .ok (.aload_n 0, 1) := by decide +kernel
theorem dX11_beats_23 : decode cX11_beats 23 = .ok (.getfield 63, 3) := by decide +kernel
theorem dX11_beats_26 : decode cX11_beats 26 = .ok (.aload_n 0, 1) := by decide +kernel
theorem dX11_beats_27 : decode cX11_beats 27 = .ok (.getfield 19, 3) := by decide +kernel
theorem dX11_beats_30 : decode cX11_beats 30 = .ok (.aload_n 0, 1) := by decide +kernel
theorem dX11_beats_31 : decode cX11_beats 31 = .ok (.getfield 26, 3) := by decide +kernel
theorem dX11_beats_34 : decode cX11_beats 34 = .ok (.iload_n 2, 1) := by decide +kernel
theorem dX11_beats_35 : decode cX11_beats 35 = .ok (.aload_n 0, 1) := by decide +kernel
theorem dX11_beats_36 : decode cX11_beats 36 = .ok (.getfield 19, 3) := by decide +kernel
theorem dX11_beats_39 : decode cX11_beats 39 = .ok (.getfield 167, 3) := by decide +kernel
theorem dX11_beats_42 : decode cX11_beats 42 = .ok (.iload_n 1, 1) := by decide +kernel
theorem dX11_beats_43 : decode cX11_beats 43 = .ok (.iaload, 1) := by decide +kernel
theorem dX11_beats_44 : decode cX11_beats 44 = .ok (.invokevirtual 299, 3) := by decide +kernel
theorem dX11_beats_47 : decode cX11_beats 47 = .ok (.istore_n 3, 1) := by decide +kernel
theorem dX11_beats_48 : decode cX11_beats 48 = .ok (.iload_n 3, 1) := by decide +kernel
theorem dX11_beats_49 : decode cX11_beats 49 = .ok (.iconst (-1), 1) := by decide +kernel
theorem dX11_beats_50 : decode cX11_beats 50 = .ok (.if_icmp .ne 5, 3) := by decide +kernel
theorem dX11_beats_53 : decode cX11_beats 53 = .ok (.iconst (-1), 1) := by decide +kernel
theorem dX11_beats_54 : decode cX11_beats 54 = .ok (.ireturn, 1) := by decide +kernel
theorem dX11_beats_55 : decode cX11_beats 55 = .ok (.aload_n 0, 1) := by decide +kernel
theorem dX11_beats_56 : decode cX11_beats 56 = .ok (.getfield 83, 3) := by decide +kernel
theorem dX11_beats_59 : decode cX11_beats 59 = .ok (.bipush 6, 2) := by decide +kernel
theorem dX11_beats_61 : decode cX11_beats 61 = .ok (.iload_n 3, 1) := by decide +kernel
theorem dX11_beats_62 : decode cX11_beats 62 = .ok (.iastore, 1) := by decide +kernel
theorem dX11_beats_63 : decode cX11_beats 63 = .ok (.iload_n 3, 1) := by decide +kernel
theorem dX11_beats_64 : decode cX11_beats 64 = .ok (.invokestatic 254, 3) := by decide +kernel
theorem dX11_beats_67 : decode cX11_beats 67 = .ok (.ireturn, 1) := by decide +kernel
set_option maxRecDepth 20000 in
theorem ggX11_beats_X9_droppers : GoodIn wsX11_beats wsX9_droppers := goodIn_r _ [10, 11, 12, 92, 93, 94, 95, 96, 97, 98, 99, 100, 101, 102] rfl (by decide +kernel)
set_option maxRecDepth 20000 in
theorem gX11_beats_X9_droppers : GoodIn wsX11_beats (wsV RX11 233 RX9 yX9_droppers wsX9_droppers) := goodIn_app (goodIn_of _ (by decide +kernel)) ggX11_beats_X9_droppers
set_option maxRecDepth 20000 in
theorem ggX11_beats_X11_isCase : GoodIn wsX11_beats wsX11_isCase := goodIn_r _ [17, 3, 18, 61, 62, 63, 64, 65, 66, 67, 68, 69, 70, 71, 72, 73, 74, 75, 76, 77, 78, 79, 80, 81, 82, 83, 84, 85, 86, 87, 88, 89, 90, 91] rfl (by decide +kernel)
set_option maxRecDepth 20000 in
theorem gX11_beats_X11_isCase : GoodIn wsX11_beats (wsV RX11 164 RX11 yX11_isCase wsX11_isCase) := goodIn_app (goodIn_of _ (by decide +kernel)) ggX11_beats_X11_isCase
set_option maxRecDepth 20000 in
theorem ggX11_beats_X0_fewestBeaten : GoodIn wsX11_beats wsX0_fewestBeaten := goodIn_r _ [23, 24, 25, 26, 27, 28, 29, 30, 31, 32, 33, 34, 35, 36, 9, 37, 38, 39, 40, 41, 42, 43, 44, 45, 46, 47, 48, 49, 50, 51, 52, 53, 54, 55, 56, 57, 58, 59, 76, 77, 78, 79, 80, 81, 82, 83, 84, 85, 86, 87, 88, 89, 90, 91, 92, 93, 94, 95, 96, 97, 98, 99, 100, 101, 102] rfl (by decide +kernel)
set_option maxRecDepth 20000 in
theorem gX11_beats_X0_fewestBeaten : GoodIn wsX11_beats (wsV RX11 299 RX0 yX0_fewestBeaten wsX0_fewestBeaten) := goodIn_app (goodIn_of _ (by decide +kernel)) ggX11_beats_X0_fewestBeaten
set_option maxRecDepth 20000 in
theorem ggX11_beats_J6_bitCount_0f7a4 : GoodIn wsX11_beats wsJ6_bitCount_0f7a4 := goodIn_r _ [30, 31, 32, 33] rfl (by decide +kernel)
set_option maxRecDepth 20000 in
theorem gX11_beats_J6_bitCount_0f7a4 : GoodIn wsX11_beats (va_wsS RX11 254 yJ6_bitCount_0f7a4 wsJ6_bitCount_0f7a4) := goodIn_app (goodIn_of _ (by decide +kernel)) ggX11_beats_J6_bitCount_0f7a4
set_option maxHeartbeats 4000000 in
set_option maxRecDepth 100000 in
theorem s_X11_beats (l : Launch) (D : va_G) (ca : Nat → ClassId) (sz : Nat) (h0 : Nat) (a1 : Int32) (h0_tape : Nat) (h0_law : Nat) (h0_standing : Nat) (h0_saying : Nat) (h0_courtReader : Nat) (h0_bookReader : Nat) (h0_sentenceReader : Nat) (h0_bench : Nat) (h0_whatIf : Nat) (h0_history : Nat) (h0_images : Nat) (h0_latest : Nat) (h0_latestBook : Nat) (h0_latestRoll : Nat) (h0_rollLength : Int32) (h0_standing_day : Int32) (h0_standing_sits : Int32) (h0_standing_holds : Int32) (h0_standing_trials : Int32) (h0_standing_triedToday : Int32) (h0_standing_dents : Nat) (h0_standing_drops : Nat) (h0_standing_how : Nat) (h0_standing_triedOn : Nat) (h0_standing_dropped : Nat) (h0_standing_heldOn : Nat) (h0_law_jurors : Int32) (h0_law_floors : Int32) (h0_law_cases : Int32) (h0_law_one : Int32) (h0_law_dent : Int32) (h0_law_seated : Int32) (h0_law_jurorName : Nat) (h0_law_floorName : Nat) (h0_law_caseName : Nat) (h0_law_pitch : Nat) (h0_law_length : Nat) (h0_law_hands : Nat) (h0_law_tune : Nat) (h0_law_dull : Nat) (h0_law_caseFloor : Nat) (h0_law_tuned : Nat) (F_h0_law_caseFloor : Nat → Int32) (h0_bench_frees : Nat) (h0_bench_low : Nat) (h0_bench_high : Nat) (h0_bench_letGoWeight : Nat) (h0_bench_holdWeight : Nat) (h0_bench_heardWith : Nat) (F_h0_standing_dents : Nat → Int32) (F_h0_law_tuned : Nat → Int32) (F_h0_law_pitch : Nat → Int32) (F_h0_law_tune : Nat → Int32) (F_h0_latest : Nat → Int32) (i_h0_rollLength : rg 0 40 h0_rollLength) (i_h0_standing_sits : rg 0 1023 h0_standing_sits) (i_h0_standing_triedToday : rg 0 1 h0_standing_triedToday) (i_h0_law_jurors : rg 0 10 h0_law_jurors) (i_h0_law_floors : rg 0 4 h0_law_floors) (i_h0_law_cases : rg 0 5 h0_law_cases) (i_h0_law_seated : rg 0 1023 h0_law_seated) (s_h0_law_caseFloor_0 : sg 0 5 0 3 F_h0_law_caseFloor) : oMet l yX11_beats wsX11_beats ({ frames := 4, cells := 0, slots := 0, locals := 103 } : Room) [.ref h0, .int a1] D ca sz [(h0, .inr (10, [.ref h0_tape, .ref h0_law, .ref h0_standing, .ref h0_saying, .ref h0_courtReader, .ref h0_bookReader, .ref h0_sentenceReader, .ref h0_bench, .ref h0_whatIf, .ref h0_history, .ref h0_images, .ref h0_latest, .ref h0_latestBook, .ref h0_latestRoll, .int h0_rollLength])), (h0_standing, .inr (9, [.int h0_standing_day, .int h0_standing_sits, .int h0_standing_holds, .int h0_standing_trials, .int h0_standing_triedToday, .ref h0_standing_dents, .ref h0_standing_drops, .ref h0_standing_how, .ref h0_standing_triedOn, .ref h0_standing_dropped, .ref h0_standing_heldOn])), (h0_law, .inr (5, [.int h0_law_jurors, .int h0_law_floors, .int h0_law_cases, .int h0_law_one, .int h0_law_dent, .int h0_law_seated, .ref h0_law_jurorName, .ref h0_law_floorName, .ref h0_law_caseName, .ref h0_law_pitch, .ref h0_law_length, .ref h0_law_hands, .ref h0_law_tune, .ref h0_law_dull, .ref h0_law_caseFloor, .ref h0_law_tuned])), (aI ca h0_law_caseFloor 5 F_h0_law_caseFloor), (h0_bench, .inr (0, [.ref h0_bench_frees, .ref h0_bench_low, .ref h0_bench_high, .ref h0_bench_letGoWeight, .ref h0_bench_holdWeight, .ref h0_bench_heardWith])), (aI ca h0_standing_dents 10 F_h0_standing_dents), (aI ca h0_law_tuned 40 F_h0_law_tuned), (aI ca h0_law_pitch 10 F_h0_law_pitch), (aI ca h0_law_tune 4 F_h0_law_tune), (aI ca h0_latest 7 F_h0_latest)] (oQi D (fun (r : Int32) (u : (Nat → Int32)) => (rg (-1) 63 r) ∧ (eqs 0 6 u F_h0_latest)) (fun (u : (Nat → Int32)) => [(h0, .inr (10, [.ref h0_tape, .ref h0_law, .ref h0_standing, .ref h0_saying, .ref h0_courtReader, .ref h0_bookReader, .ref h0_sentenceReader, .ref h0_bench, .ref h0_whatIf, .ref h0_history, .ref h0_images, .ref h0_latest, .ref h0_latestBook, .ref h0_latestRoll, .int h0_rollLength])), (h0_standing, .inr (9, [.int h0_standing_day, .int h0_standing_sits, .int h0_standing_holds, .int h0_standing_trials, .int h0_standing_triedToday, .ref h0_standing_dents, .ref h0_standing_drops, .ref h0_standing_how, .ref h0_standing_triedOn, .ref h0_standing_dropped, .ref h0_standing_heldOn])), (h0_law, .inr (5, [.int h0_law_jurors, .int h0_law_floors, .int h0_law_cases, .int h0_law_one, .int h0_law_dent, .int h0_law_seated, .ref h0_law_jurorName, .ref h0_law_floorName, .ref h0_law_caseName, .ref h0_law_pitch, .ref h0_law_length, .ref h0_law_hands, .ref h0_law_tune, .ref h0_law_dull, .ref h0_law_caseFloor, .ref h0_law_tuned])), (aI ca h0_law_caseFloor 5 F_h0_law_caseFloor), (h0_bench, .inr (0, [.ref h0_bench_frees, .ref h0_bench_low, .ref h0_bench_high, .ref h0_bench_letGoWeight, .ref h0_bench_holdWeight, .ref h0_bench_heardWith])), (aI ca h0_standing_dents 10 F_h0_standing_dents), (aI ca h0_law_tuned 40 F_h0_law_tuned), (aI ca h0_law_pitch 10 F_h0_law_pitch), (aI ca h0_law_tune 4 F_h0_law_tune), (aI ca h0_latest 7 u)])) 0 0 := by
  refine oM (cc := cX11_beats) (maxL := 4) (ret := (some .int)) (by decide) rfl (Nat.le_of_ble_eq_true rfl) [(0, .ref h0), (1, .int a1)] rfl ?_
  intro p e s m below meth c A H locs ls hx hb hr hml hts hown hlocks hin hK hP hD hA hS hl
  have hown : s.vm.findClass RX11 = some m.cls := hown
  have k1 := hts (.fieldLink RX11 26 "LidCourt" "standing" "LLidCourt$Standing;") (by decide +kernel)
  have k2 : ∀ w ∈ wsX110, w ∈ wsX11_beats := fun _ h => List.mem_cons_of_mem _ (List.mem_append_left _ (List.mem_append_left _ (List.mem_append_right _ h)))
  have k3 := hts (.fieldLink RX11 63 "LidCourt" "bench" "LLidCourt$Bench;") (by decide +kernel)
  have k4 := hts (.fieldLink RX11 19 "LidCourt" "law" "LLidCourt$Law;") (by decide +kernel)
  have k5 := hts (.fieldLink RX11 167 "LidCourt$Law" "caseFloor" "[I") (by decide +kernel)
  have k6 : ∀ w ∈ wsX50, w ∈ wsX11_beats := fun _ h => List.mem_cons_of_mem _ (List.mem_append_left _ (List.mem_append_right _ h))
  have k7 := hts (.fieldLink RX11 83 "LidCourt" "latest" "[I") (by decide +kernel)
  refine lv_aload_n hx hb dX11_beats_0 rfl (lv_at hl 0 rfl) ?_
  refine va_get (D := D) (ci := 10) (v := .ref h0_standing) (C := RX11) (T := TX11) (N := 15) hx hb hts k2 hown hK.1 hP 0 rfl rfl 2 (by decide) k1 (fun _ h9 => h9) rfl dX11_beats_1 ?_
  refine oC_i (Wc := [(h0_standing, .inr (9, [.int h0_standing_day, .int h0_standing_sits, .int h0_standing_holds, .int h0_standing_trials, .int h0_standing_triedToday, .ref h0_standing_dents, .ref h0_standing_drops, .ref h0_standing_how, .ref h0_standing_triedOn, .ref h0_standing_dropped, .ref h0_standing_heldOn]))]) (Wr := [(h0, .inr (10, [.ref h0_tape, .ref h0_law, .ref h0_standing, .ref h0_saying, .ref h0_courtReader, .ref h0_bookReader, .ref h0_sentenceReader, .ref h0_bench, .ref h0_whatIf, .ref h0_history, .ref h0_images, .ref h0_latest, .ref h0_latestBook, .ref h0_latestRoll, .int h0_rollLength])), (h0_law, .inr (5, [.int h0_law_jurors, .int h0_law_floors, .int h0_law_cases, .int h0_law_one, .int h0_law_dent, .int h0_law_seated, .ref h0_law_jurorName, .ref h0_law_floorName, .ref h0_law_caseName, .ref h0_law_pitch, .ref h0_law_length, .ref h0_law_hands, .ref h0_law_tune, .ref h0_law_dull, .ref h0_law_caseFloor, .ref h0_law_tuned])), (aI ca h0_law_caseFloor 5 F_h0_law_caseFloor), (h0_bench, .inr (0, [.ref h0_bench_frees, .ref h0_bench_low, .ref h0_bench_high, .ref h0_bench_letGoWeight, .ref h0_bench_holdWeight, .ref h0_bench_heardWith])), (aI ca h0_standing_dents 10 F_h0_standing_dents), (aI ca h0_law_tuned 40 F_h0_law_tuned), (aI ca h0_law_pitch 10 F_h0_law_pitch), (aI ca h0_law_tune 4 F_h0_law_tune), (aI ca h0_latest 7 F_h0_latest)]) (va_runV (As := []) (rest := []) ⟨hx, hb, hml, hown, hts⟩ (s_X9_droppers l D ca H.size h0_standing h0_standing_day h0_standing_sits h0_standing_holds h0_standing_trials h0_standing_triedToday h0_standing_dents h0_standing_drops h0_standing_how h0_standing_triedOn h0_standing_dropped h0_standing_heldOn i_h0_standing_sits i_h0_standing_triedToday) (cwV 0 hts gX11_beats_X9_droppers rfl rfl rfl (by decide +kernel) ⟨Nat.le_of_ble_eq_true rfl, Nat.le_of_ble_eq_true rfl⟩) (oPV (C := RX9) hK hP hD [1] rfl (by decide) 0 rfl (ci := 9) rfl rfl) rfl rfl hl.1 rfl (lv_room (Nat.le_of_ble_eq_true rfl)) dX11_beats_4 ⟨Nat.le_of_ble_eq_true rfl, Nat.le_of_ble_eq_true rfl⟩) hP hD hS hA [1] [0, 2, 3, 4, 5, 6, 7, 8, 9] rfl rfl (by decide) (by decide) (fun r_33 u H locs w_34 hP hD hS => ?_)
  obtain ⟨⟩ := u
  have hP : va_P D vwCl [(h0, .inr (10, [.ref h0_tape, .ref h0_law, .ref h0_standing, .ref h0_saying, .ref h0_courtReader, .ref h0_bookReader, .ref h0_sentenceReader, .ref h0_bench, .ref h0_whatIf, .ref h0_history, .ref h0_images, .ref h0_latest, .ref h0_latestBook, .ref h0_latestRoll, .int h0_rollLength])), (h0_law, .inr (5, [.int h0_law_jurors, .int h0_law_floors, .int h0_law_cases, .int h0_law_one, .int h0_law_dent, .int h0_law_seated, .ref h0_law_jurorName, .ref h0_law_floorName, .ref h0_law_caseName, .ref h0_law_pitch, .ref h0_law_length, .ref h0_law_hands, .ref h0_law_tune, .ref h0_law_dull, .ref h0_law_caseFloor, .ref h0_law_tuned])), (aI ca h0_law_caseFloor 5 F_h0_law_caseFloor), (h0_bench, .inr (0, [.ref h0_bench_frees, .ref h0_bench_low, .ref h0_bench_high, .ref h0_bench_letGoWeight, .ref h0_bench_holdWeight, .ref h0_bench_heardWith])), (aI ca h0_standing_dents 10 F_h0_standing_dents), (aI ca h0_law_tuned 40 F_h0_law_tuned), (aI ca h0_law_pitch 10 F_h0_law_pitch), (aI ca h0_law_tune 4 F_h0_law_tune), (aI ca h0_latest 7 F_h0_latest), (h0_standing, .inr (9, [.int h0_standing_day, .int h0_standing_sits, .int h0_standing_holds, .int h0_standing_trials, .int h0_standing_triedToday, .ref h0_standing_dents, .ref h0_standing_drops, .ref h0_standing_how, .ref h0_standing_triedOn, .ref h0_standing_dropped, .ref h0_standing_heldOn]))] H := hP
  have hD : va_D A [(h0, .inr (10, [.ref h0_tape, .ref h0_law, .ref h0_standing, .ref h0_saying, .ref h0_courtReader, .ref h0_bookReader, .ref h0_sentenceReader, .ref h0_bench, .ref h0_whatIf, .ref h0_history, .ref h0_images, .ref h0_latest, .ref h0_latestBook, .ref h0_latestRoll, .int h0_rollLength])), (h0_law, .inr (5, [.int h0_law_jurors, .int h0_law_floors, .int h0_law_cases, .int h0_law_one, .int h0_law_dent, .int h0_law_seated, .ref h0_law_jurorName, .ref h0_law_floorName, .ref h0_law_caseName, .ref h0_law_pitch, .ref h0_law_length, .ref h0_law_hands, .ref h0_law_tune, .ref h0_law_dull, .ref h0_law_caseFloor, .ref h0_law_tuned])), (aI ca h0_law_caseFloor 5 F_h0_law_caseFloor), (h0_bench, .inr (0, [.ref h0_bench_frees, .ref h0_bench_low, .ref h0_bench_high, .ref h0_bench_letGoWeight, .ref h0_bench_holdWeight, .ref h0_bench_heardWith])), (aI ca h0_standing_dents 10 F_h0_standing_dents), (aI ca h0_law_tuned 40 F_h0_law_tuned), (aI ca h0_law_pitch 10 F_h0_law_pitch), (aI ca h0_law_tune 4 F_h0_law_tune), (aI ca h0_latest 7 F_h0_latest), (h0_standing, .inr (9, [.int h0_standing_day, .int h0_standing_sits, .int h0_standing_holds, .int h0_standing_trials, .int h0_standing_triedToday, .ref h0_standing_dents, .ref h0_standing_drops, .ref h0_standing_how, .ref h0_standing_triedOn, .ref h0_standing_dropped, .ref h0_standing_heldOn]))] := hD
  try dsimp only at w_34
  obtain ⟨h_35, h_36⟩ := w_34
  refine lv_istore_n (lv' := [(2, .int r_33), (0, .ref h0), (1, .int a1)]) hx hb dX11_beats_7 rfl hl (by decide) rfl (fun ls hl => ?_)
  refine lv_aload_n hx hb dX11_beats_8 rfl (lv_at hl 1 rfl) ?_
  refine lv_iload_n hx hb dX11_beats_9 rfl (lv_at hl 2 rfl) ?_
  refine oC_i (Wc := [(h0, .inr (10, [.ref h0_tape, .ref h0_law, .ref h0_standing, .ref h0_saying, .ref h0_courtReader, .ref h0_bookReader, .ref h0_sentenceReader, .ref h0_bench, .ref h0_whatIf, .ref h0_history, .ref h0_images, .ref h0_latest, .ref h0_latestBook, .ref h0_latestRoll, .int h0_rollLength])), (h0_law, .inr (5, [.int h0_law_jurors, .int h0_law_floors, .int h0_law_cases, .int h0_law_one, .int h0_law_dent, .int h0_law_seated, .ref h0_law_jurorName, .ref h0_law_floorName, .ref h0_law_caseName, .ref h0_law_pitch, .ref h0_law_length, .ref h0_law_hands, .ref h0_law_tune, .ref h0_law_dull, .ref h0_law_caseFloor, .ref h0_law_tuned]))]) (Wr := [(aI ca h0_law_caseFloor 5 F_h0_law_caseFloor), (h0_bench, .inr (0, [.ref h0_bench_frees, .ref h0_bench_low, .ref h0_bench_high, .ref h0_bench_letGoWeight, .ref h0_bench_holdWeight, .ref h0_bench_heardWith])), (aI ca h0_standing_dents 10 F_h0_standing_dents), (aI ca h0_law_tuned 40 F_h0_law_tuned), (aI ca h0_law_pitch 10 F_h0_law_pitch), (aI ca h0_law_tune 4 F_h0_law_tune), (aI ca h0_latest 7 F_h0_latest), (h0_standing, .inr (9, [.int h0_standing_day, .int h0_standing_sits, .int h0_standing_holds, .int h0_standing_trials, .int h0_standing_triedToday, .ref h0_standing_dents, .ref h0_standing_drops, .ref h0_standing_how, .ref h0_standing_triedOn, .ref h0_standing_dropped, .ref h0_standing_heldOn]))]) (va_runV (As := [.int a1]) (rest := []) ⟨hx, hb, hml, hown, hts⟩ (s_X11_isCase l D ca H.size h0 a1 h0_tape h0_law h0_standing h0_saying h0_courtReader h0_bookReader h0_sentenceReader h0_bench h0_whatIf h0_history h0_images h0_latest h0_latestBook h0_latestRoll h0_rollLength h0_law_jurors h0_law_floors h0_law_cases h0_law_one h0_law_dent h0_law_seated h0_law_jurorName h0_law_floorName h0_law_caseName h0_law_pitch h0_law_length h0_law_hands h0_law_tune h0_law_dull h0_law_caseFloor h0_law_tuned i_h0_rollLength i_h0_law_jurors i_h0_law_floors i_h0_law_cases i_h0_law_seated) (cwV 1 hts gX11_beats_X11_isCase rfl rfl rfl (by decide +kernel) ⟨Nat.le_of_ble_eq_true rfl, Nat.le_of_ble_eq_true rfl⟩) (oPV (C := RX11) hK hP hD [0, 1] rfl (by decide) 0 rfl (ci := 10) rfl rfl) rfl rfl hl.1 rfl (lv_room (Nat.le_of_ble_eq_true rfl)) dX11_beats_10 ⟨Nat.le_of_ble_eq_true rfl, Nat.le_of_ble_eq_true rfl⟩) hP hD hS hA [0, 1] [2, 3, 4, 5, 6, 7, 8, 9] rfl rfl (by decide) (by decide) (fun r_37 u H locs w_38 hP hD hS => ?_)
  obtain ⟨⟩ := u
  have hP : va_P D vwCl [(aI ca h0_law_caseFloor 5 F_h0_law_caseFloor), (h0_bench, .inr (0, [.ref h0_bench_frees, .ref h0_bench_low, .ref h0_bench_high, .ref h0_bench_letGoWeight, .ref h0_bench_holdWeight, .ref h0_bench_heardWith])), (aI ca h0_standing_dents 10 F_h0_standing_dents), (aI ca h0_law_tuned 40 F_h0_law_tuned), (aI ca h0_law_pitch 10 F_h0_law_pitch), (aI ca h0_law_tune 4 F_h0_law_tune), (aI ca h0_latest 7 F_h0_latest), (h0_standing, .inr (9, [.int h0_standing_day, .int h0_standing_sits, .int h0_standing_holds, .int h0_standing_trials, .int h0_standing_triedToday, .ref h0_standing_dents, .ref h0_standing_drops, .ref h0_standing_how, .ref h0_standing_triedOn, .ref h0_standing_dropped, .ref h0_standing_heldOn])), (h0, .inr (10, [.ref h0_tape, .ref h0_law, .ref h0_standing, .ref h0_saying, .ref h0_courtReader, .ref h0_bookReader, .ref h0_sentenceReader, .ref h0_bench, .ref h0_whatIf, .ref h0_history, .ref h0_images, .ref h0_latest, .ref h0_latestBook, .ref h0_latestRoll, .int h0_rollLength])), (h0_law, .inr (5, [.int h0_law_jurors, .int h0_law_floors, .int h0_law_cases, .int h0_law_one, .int h0_law_dent, .int h0_law_seated, .ref h0_law_jurorName, .ref h0_law_floorName, .ref h0_law_caseName, .ref h0_law_pitch, .ref h0_law_length, .ref h0_law_hands, .ref h0_law_tune, .ref h0_law_dull, .ref h0_law_caseFloor, .ref h0_law_tuned]))] H := hP
  have hD : va_D A [(aI ca h0_law_caseFloor 5 F_h0_law_caseFloor), (h0_bench, .inr (0, [.ref h0_bench_frees, .ref h0_bench_low, .ref h0_bench_high, .ref h0_bench_letGoWeight, .ref h0_bench_holdWeight, .ref h0_bench_heardWith])), (aI ca h0_standing_dents 10 F_h0_standing_dents), (aI ca h0_law_tuned 40 F_h0_law_tuned), (aI ca h0_law_pitch 10 F_h0_law_pitch), (aI ca h0_law_tune 4 F_h0_law_tune), (aI ca h0_latest 7 F_h0_latest), (h0_standing, .inr (9, [.int h0_standing_day, .int h0_standing_sits, .int h0_standing_holds, .int h0_standing_trials, .int h0_standing_triedToday, .ref h0_standing_dents, .ref h0_standing_drops, .ref h0_standing_how, .ref h0_standing_triedOn, .ref h0_standing_dropped, .ref h0_standing_heldOn])), (h0, .inr (10, [.ref h0_tape, .ref h0_law, .ref h0_standing, .ref h0_saying, .ref h0_courtReader, .ref h0_bookReader, .ref h0_sentenceReader, .ref h0_bench, .ref h0_whatIf, .ref h0_history, .ref h0_images, .ref h0_latest, .ref h0_latestBook, .ref h0_latestRoll, .int h0_rollLength])), (h0_law, .inr (5, [.int h0_law_jurors, .int h0_law_floors, .int h0_law_cases, .int h0_law_one, .int h0_law_dent, .int h0_law_seated, .ref h0_law_jurorName, .ref h0_law_floorName, .ref h0_law_caseName, .ref h0_law_pitch, .ref h0_law_length, .ref h0_law_hands, .ref h0_law_tune, .ref h0_law_dull, .ref h0_law_caseFloor, .ref h0_law_tuned]))] := hD
  try dsimp only at w_38
  rcases w_38 with h_39 | ⟨h_40, h_41, h_42, h_43⟩
  · skip
    subst h_39
    refine lv_if_eq (tgt := 20) hx hb dX11_beats_13 (by decide) (fun _ => ?_) (fun c => absurd (by decide) c)
    refine lv_iconst (v := (-1)) hx hb dX11_beats_20 (by decide) ?_
    exact oE_i hx hb hr rfl hlocks hP hD hS F_h0_latest [8, 7, 9, 0, 1, 2, 3, 4, 5, 6] rfl (by decide) ⟨(⟨by decide, by decide⟩ : rg (-1) 63 ((-1) : Int32)), (eqs_w (a' := 0) (b' := 6) (eqs_rf (a := 0) (b := 7) F_h0_latest) (by decide) (by decide))⟩ (Nat.le_of_ble_eq_true rfl) (Nat.le_of_ble_eq_true rfl) dX11_beats_21
  · skip
    subst h_40
    refine lv_if_eq (tgt := 20) hx hb dX11_beats_13 (by decide) (fun c => absurd c (by decide)) (fun _ => ?_)
    refine lv_iload_n hx hb dX11_beats_16 rfl (lv_at hl 0 rfl) ?_
    refine lv_if_ne (tgt := 22) hx hb dX11_beats_17 (by decide) (fun c_44 => ?_) (fun c_44 => ?_)
    · skip
      have h_45 : rg 1 1023 r_33 := cl_nlo c_44 h_35 (show (0 : Int32).toInt = 0 by decide) (by decide) (by decide)
      refine lv_aload_n hx hb dX11_beats_22 rfl (lv_at hl 1 rfl) ?_
      refine va_get (D := D) (ci := 10) (v := .ref h0_bench) (C := RX11) (T := TX11) (N := 15) hx hb hts k2 hown hK.1 hP 8 rfl rfl 7 (by decide) k3 (fun _ h9 => h9) rfl dX11_beats_23 ?_
      refine lv_aload_n hx hb dX11_beats_26 rfl (lv_at hl 1 rfl) ?_
      refine va_get (D := D) (ci := 10) (v := .ref h0_law) (C := RX11) (T := TX11) (N := 15) hx hb hts k2 hown hK.1 hP 8 rfl rfl 1 (by decide) k4 (fun _ h9 => h9) rfl dX11_beats_27 ?_
      refine lv_aload_n hx hb dX11_beats_30 rfl (lv_at hl 1 rfl) ?_
      refine va_get (D := D) (ci := 10) (v := .ref h0_standing) (C := RX11) (T := TX11) (N := 15) hx hb hts k2 hown hK.1 hP 8 rfl rfl 2 (by decide) k1 (fun _ h9 => h9) rfl dX11_beats_31 ?_
      refine lv_iload_n hx hb dX11_beats_34 rfl (lv_at hl 0 rfl) ?_
      refine lv_aload_n hx hb dX11_beats_35 rfl (lv_at hl 1 rfl) ?_
      refine va_get (D := D) (ci := 10) (v := .ref h0_law) (C := RX11) (T := TX11) (N := 15) hx hb hts k2 hown hK.1 hP 8 rfl rfl 1 (by decide) k4 (fun _ h9 => h9) rfl dX11_beats_36 ?_
      refine va_get (D := D) (ci := 5) (v := .ref h0_law_caseFloor) (C := RX5) (T := TX5) (N := 16) hx hb hts k6 hown hK.1 hP 9 rfl rfl 14 (by decide) k5 (fun _ h9 => h9) rfl dX11_beats_39 ?_
      refine lv_iload_n hx hb dX11_beats_42 rfl (lv_at hl 2 rfl) ?_
      refine va_iald hx hb hK.1 hP 0 0 rfl rfl (rg_in h_41 (by decide) (by decide)) dX11_beats_43 ?_
      refine lv_topi (fun x_46 ex_46 => ?_)
      have h_47 : rg 0 3 x_46 := by rw [ex_46]; exact sg_at s_h0_law_caseFloor_0 h_41 (by decide) (by decide) (by decide)
      refine oC_i (Wc := [(h0_bench, .inr (0, [.ref h0_bench_frees, .ref h0_bench_low, .ref h0_bench_high, .ref h0_bench_letGoWeight, .ref h0_bench_holdWeight, .ref h0_bench_heardWith])), (h0_law, .inr (5, [.int h0_law_jurors, .int h0_law_floors, .int h0_law_cases, .int h0_law_one, .int h0_law_dent, .int h0_law_seated, .ref h0_law_jurorName, .ref h0_law_floorName, .ref h0_law_caseName, .ref h0_law_pitch, .ref h0_law_length, .ref h0_law_hands, .ref h0_law_tune, .ref h0_law_dull, .ref h0_law_caseFloor, .ref h0_law_tuned])), (h0_standing, .inr (9, [.int h0_standing_day, .int h0_standing_sits, .int h0_standing_holds, .int h0_standing_trials, .int h0_standing_triedToday, .ref h0_standing_dents, .ref h0_standing_drops, .ref h0_standing_how, .ref h0_standing_triedOn, .ref h0_standing_dropped, .ref h0_standing_heldOn])), (aI ca h0_standing_dents 10 F_h0_standing_dents), (aI ca h0_law_tuned 40 F_h0_law_tuned), (aI ca h0_law_pitch 10 F_h0_law_pitch), (aI ca h0_law_tune 4 F_h0_law_tune)]) (Wr := [(aI ca h0_law_caseFloor 5 F_h0_law_caseFloor), (aI ca h0_latest 7 F_h0_latest), (h0, .inr (10, [.ref h0_tape, .ref h0_law, .ref h0_standing, .ref h0_saying, .ref h0_courtReader, .ref h0_bookReader, .ref h0_sentenceReader, .ref h0_bench, .ref h0_whatIf, .ref h0_history, .ref h0_images, .ref h0_latest, .ref h0_latestBook, .ref h0_latestRoll, .int h0_rollLength]))]) (va_runV (As := [.ref h0_law, .ref h0_standing, .int r_33, .int x_46]) (rest := []) ⟨hx, hb, hml, hown, hts⟩ (s_X0_fewestBeaten l D ca H.size h0_bench h0_law h0_standing r_33 x_46 h0_bench_frees h0_bench_low h0_bench_high h0_bench_letGoWeight h0_bench_holdWeight h0_bench_heardWith h0_law_jurors h0_law_floors h0_law_cases h0_law_one h0_law_dent h0_law_seated h0_law_jurorName h0_law_floorName h0_law_caseName h0_law_pitch h0_law_length h0_law_hands h0_law_tune h0_law_dull h0_law_caseFloor h0_law_tuned h0_standing_day h0_standing_sits h0_standing_holds h0_standing_trials h0_standing_triedToday h0_standing_dents h0_standing_drops h0_standing_how h0_standing_triedOn h0_standing_dropped h0_standing_heldOn F_h0_standing_dents F_h0_law_tuned F_h0_law_pitch F_h0_law_tune (rgw (lo := 0) (hi := 1023) h_45 (by decide) (by decide)) h_47 i_h0_law_jurors i_h0_law_floors (rgw (lo := 0) (hi := 5) h_42 (by decide) (by decide)) i_h0_law_seated i_h0_standing_sits i_h0_standing_triedToday) (cwV 4 hts gX11_beats_X0_fewestBeaten rfl rfl rfl (by decide +kernel) ⟨Nat.le_of_ble_eq_true rfl, Nat.le_of_ble_eq_true rfl⟩) (oPV (C := RX0) hK hP hD [1, 9, 7, 2, 3, 4, 5] rfl (by decide) 0 rfl (ci := 0) rfl rfl) rfl rfl hl.1 rfl (lv_room (Nat.le_of_ble_eq_true rfl)) dX11_beats_44 ⟨Nat.le_of_ble_eq_true rfl, Nat.le_of_ble_eq_true rfl⟩) hP hD hS hA [1, 9, 7, 2, 3, 4, 5] [0, 6, 8] rfl rfl (by decide) (by decide) (fun r_48 u H locs w_49 hP hD hS => ?_)
      obtain ⟨⟩ := u
      have hP : va_P D vwCl [(aI ca h0_law_caseFloor 5 F_h0_law_caseFloor), (aI ca h0_latest 7 F_h0_latest), (h0, .inr (10, [.ref h0_tape, .ref h0_law, .ref h0_standing, .ref h0_saying, .ref h0_courtReader, .ref h0_bookReader, .ref h0_sentenceReader, .ref h0_bench, .ref h0_whatIf, .ref h0_history, .ref h0_images, .ref h0_latest, .ref h0_latestBook, .ref h0_latestRoll, .int h0_rollLength])), (h0_bench, .inr (0, [.ref h0_bench_frees, .ref h0_bench_low, .ref h0_bench_high, .ref h0_bench_letGoWeight, .ref h0_bench_holdWeight, .ref h0_bench_heardWith])), (h0_law, .inr (5, [.int h0_law_jurors, .int h0_law_floors, .int h0_law_cases, .int h0_law_one, .int h0_law_dent, .int h0_law_seated, .ref h0_law_jurorName, .ref h0_law_floorName, .ref h0_law_caseName, .ref h0_law_pitch, .ref h0_law_length, .ref h0_law_hands, .ref h0_law_tune, .ref h0_law_dull, .ref h0_law_caseFloor, .ref h0_law_tuned])), (h0_standing, .inr (9, [.int h0_standing_day, .int h0_standing_sits, .int h0_standing_holds, .int h0_standing_trials, .int h0_standing_triedToday, .ref h0_standing_dents, .ref h0_standing_drops, .ref h0_standing_how, .ref h0_standing_triedOn, .ref h0_standing_dropped, .ref h0_standing_heldOn])), (aI ca h0_standing_dents 10 F_h0_standing_dents), (aI ca h0_law_tuned 40 F_h0_law_tuned), (aI ca h0_law_pitch 10 F_h0_law_pitch), (aI ca h0_law_tune 4 F_h0_law_tune)] H := hP
      have hD : va_D A [(aI ca h0_law_caseFloor 5 F_h0_law_caseFloor), (aI ca h0_latest 7 F_h0_latest), (h0, .inr (10, [.ref h0_tape, .ref h0_law, .ref h0_standing, .ref h0_saying, .ref h0_courtReader, .ref h0_bookReader, .ref h0_sentenceReader, .ref h0_bench, .ref h0_whatIf, .ref h0_history, .ref h0_images, .ref h0_latest, .ref h0_latestBook, .ref h0_latestRoll, .int h0_rollLength])), (h0_bench, .inr (0, [.ref h0_bench_frees, .ref h0_bench_low, .ref h0_bench_high, .ref h0_bench_letGoWeight, .ref h0_bench_holdWeight, .ref h0_bench_heardWith])), (h0_law, .inr (5, [.int h0_law_jurors, .int h0_law_floors, .int h0_law_cases, .int h0_law_one, .int h0_law_dent, .int h0_law_seated, .ref h0_law_jurorName, .ref h0_law_floorName, .ref h0_law_caseName, .ref h0_law_pitch, .ref h0_law_length, .ref h0_law_hands, .ref h0_law_tune, .ref h0_law_dull, .ref h0_law_caseFloor, .ref h0_law_tuned])), (h0_standing, .inr (9, [.int h0_standing_day, .int h0_standing_sits, .int h0_standing_holds, .int h0_standing_trials, .int h0_standing_triedToday, .ref h0_standing_dents, .ref h0_standing_drops, .ref h0_standing_how, .ref h0_standing_triedOn, .ref h0_standing_dropped, .ref h0_standing_heldOn])), (aI ca h0_standing_dents 10 F_h0_standing_dents), (aI ca h0_law_tuned 40 F_h0_law_tuned), (aI ca h0_law_pitch 10 F_h0_law_pitch), (aI ca h0_law_tune 4 F_h0_law_tune)] := hD
      try dsimp only at w_49
      have h_50 := w_49
      refine lv_istore_n (lv' := [(3, .int r_48), (2, .int r_33), (0, .ref h0), (1, .int a1)]) hx hb dX11_beats_47 rfl hl (by decide) rfl (fun ls hl => ?_)
      refine lv_iload_n hx hb dX11_beats_48 rfl (lv_at hl 0 rfl) ?_
      refine lv_iconst (v := (-1)) hx hb dX11_beats_49 (by decide) ?_
      refine lv_icmp_ne (tgt := 55) hx hb dX11_beats_50 (by decide) (fun c_51 => ?_) (fun c_51 => ?_)
      · skip
        have h_52 : rg 0 1023 r_48 := cl_nlo c_51 h_50 (show ((-1) : Int32).toInt = (-1) by decide) (by decide) (by decide)
        refine lv_aload_n hx hb dX11_beats_55 rfl (lv_at hl 2 rfl) ?_
        refine va_get (D := D) (ci := 10) (v := .ref h0_latest) (C := RX11) (T := TX11) (N := 15) hx hb hts k2 hown hK.1 hP 2 rfl rfl 11 (by decide) k7 (fun _ h9 => h9) rfl dX11_beats_56 ?_
        refine lv_bipush (v := 6) hx hb dX11_beats_59 (by decide) ?_
        refine lv_iload_n hx hb dX11_beats_61 rfl (lv_at hl 0 rfl) ?_
        refine va_iast hx hb hK.1 hP hD hS 1 0 rfl rfl (rg_in (⟨by decide, by decide⟩ : rg 6 6 (6 : Int32)) (by decide) (by decide)) dX11_beats_62 (fun H locs hP hD hS => ?_)
        obtain ⟨g_53, eg_53⟩ : ∃ y : Nat → Int32, y = upd F_h0_latest (6 : Int32).toNatClampNeg (r_48 : Int32) := ⟨_, rfl⟩
        rw [← eg_53] at hP hD
        have s_54 : sg 6 7 0 1023 g_53 := sg_one eg_53 h_52
        have q_55 : eqs 0 6 g_53 F_h0_latest := eqs_out (eqs_rf (a := 0) (b := 7) F_h0_latest) eg_53 (⟨by decide, by decide⟩ : rg 6 6 (6 : Int32)) (by decide) (by decide) (by decide) (by decide)
        have hP : va_P D vwCl [(aI ca h0_law_caseFloor 5 F_h0_law_caseFloor), (aI ca h0_latest 7 g_53), (h0, .inr (10, [.ref h0_tape, .ref h0_law, .ref h0_standing, .ref h0_saying, .ref h0_courtReader, .ref h0_bookReader, .ref h0_sentenceReader, .ref h0_bench, .ref h0_whatIf, .ref h0_history, .ref h0_images, .ref h0_latest, .ref h0_latestBook, .ref h0_latestRoll, .int h0_rollLength])), (h0_bench, .inr (0, [.ref h0_bench_frees, .ref h0_bench_low, .ref h0_bench_high, .ref h0_bench_letGoWeight, .ref h0_bench_holdWeight, .ref h0_bench_heardWith])), (h0_law, .inr (5, [.int h0_law_jurors, .int h0_law_floors, .int h0_law_cases, .int h0_law_one, .int h0_law_dent, .int h0_law_seated, .ref h0_law_jurorName, .ref h0_law_floorName, .ref h0_law_caseName, .ref h0_law_pitch, .ref h0_law_length, .ref h0_law_hands, .ref h0_law_tune, .ref h0_law_dull, .ref h0_law_caseFloor, .ref h0_law_tuned])), (h0_standing, .inr (9, [.int h0_standing_day, .int h0_standing_sits, .int h0_standing_holds, .int h0_standing_trials, .int h0_standing_triedToday, .ref h0_standing_dents, .ref h0_standing_drops, .ref h0_standing_how, .ref h0_standing_triedOn, .ref h0_standing_dropped, .ref h0_standing_heldOn])), (aI ca h0_standing_dents 10 F_h0_standing_dents), (aI ca h0_law_tuned 40 F_h0_law_tuned), (aI ca h0_law_pitch 10 F_h0_law_pitch), (aI ca h0_law_tune 4 F_h0_law_tune)] H := hP
        have hD : va_D A [(aI ca h0_law_caseFloor 5 F_h0_law_caseFloor), (aI ca h0_latest 7 g_53), (h0, .inr (10, [.ref h0_tape, .ref h0_law, .ref h0_standing, .ref h0_saying, .ref h0_courtReader, .ref h0_bookReader, .ref h0_sentenceReader, .ref h0_bench, .ref h0_whatIf, .ref h0_history, .ref h0_images, .ref h0_latest, .ref h0_latestBook, .ref h0_latestRoll, .int h0_rollLength])), (h0_bench, .inr (0, [.ref h0_bench_frees, .ref h0_bench_low, .ref h0_bench_high, .ref h0_bench_letGoWeight, .ref h0_bench_holdWeight, .ref h0_bench_heardWith])), (h0_law, .inr (5, [.int h0_law_jurors, .int h0_law_floors, .int h0_law_cases, .int h0_law_one, .int h0_law_dent, .int h0_law_seated, .ref h0_law_jurorName, .ref h0_law_floorName, .ref h0_law_caseName, .ref h0_law_pitch, .ref h0_law_length, .ref h0_law_hands, .ref h0_law_tune, .ref h0_law_dull, .ref h0_law_caseFloor, .ref h0_law_tuned])), (h0_standing, .inr (9, [.int h0_standing_day, .int h0_standing_sits, .int h0_standing_holds, .int h0_standing_trials, .int h0_standing_triedToday, .ref h0_standing_dents, .ref h0_standing_drops, .ref h0_standing_how, .ref h0_standing_triedOn, .ref h0_standing_dropped, .ref h0_standing_heldOn])), (aI ca h0_standing_dents 10 F_h0_standing_dents), (aI ca h0_law_tuned 40 F_h0_law_tuned), (aI ca h0_law_pitch 10 F_h0_law_pitch), (aI ca h0_law_tune 4 F_h0_law_tune)] := hD
        refine lv_iload_n hx hb dX11_beats_63 rfl (lv_at hl 0 rfl) ?_
        refine oC_i (Wc := []) (Wr := [(aI ca h0_law_caseFloor 5 F_h0_law_caseFloor), (aI ca h0_latest 7 g_53), (h0, .inr (10, [.ref h0_tape, .ref h0_law, .ref h0_standing, .ref h0_saying, .ref h0_courtReader, .ref h0_bookReader, .ref h0_sentenceReader, .ref h0_bench, .ref h0_whatIf, .ref h0_history, .ref h0_images, .ref h0_latest, .ref h0_latestBook, .ref h0_latestRoll, .int h0_rollLength])), (h0_bench, .inr (0, [.ref h0_bench_frees, .ref h0_bench_low, .ref h0_bench_high, .ref h0_bench_letGoWeight, .ref h0_bench_holdWeight, .ref h0_bench_heardWith])), (h0_law, .inr (5, [.int h0_law_jurors, .int h0_law_floors, .int h0_law_cases, .int h0_law_one, .int h0_law_dent, .int h0_law_seated, .ref h0_law_jurorName, .ref h0_law_floorName, .ref h0_law_caseName, .ref h0_law_pitch, .ref h0_law_length, .ref h0_law_hands, .ref h0_law_tune, .ref h0_law_dull, .ref h0_law_caseFloor, .ref h0_law_tuned])), (h0_standing, .inr (9, [.int h0_standing_day, .int h0_standing_sits, .int h0_standing_holds, .int h0_standing_trials, .int h0_standing_triedToday, .ref h0_standing_dents, .ref h0_standing_drops, .ref h0_standing_how, .ref h0_standing_triedOn, .ref h0_standing_dropped, .ref h0_standing_heldOn])), (aI ca h0_standing_dents 10 F_h0_standing_dents), (aI ca h0_law_tuned 40 F_h0_law_tuned), (aI ca h0_law_pitch 10 F_h0_law_pitch), (aI ca h0_law_tune 4 F_h0_law_tune)]) (va_runS (As := [.int r_48]) (rest := []) ⟨hx, hb, hml, hown, hts⟩ (s_J6_bitCount_0f7a4 l D ca H.size r_48) (va_cwS 1 hts gX11_beats_J6_bitCount_0f7a4 rfl rfl rfl (by decide +kernel) ⟨Nat.le_of_ble_eq_true rfl, Nat.le_of_ble_eq_true rfl⟩) (oPS hK hP hD [] rfl (by decide)) rfl rfl hl.1 rfl (lv_room (Nat.le_of_ble_eq_true rfl)) dX11_beats_64 ⟨Nat.le_of_ble_eq_true rfl, Nat.le_of_ble_eq_true rfl⟩) hP hD hS hA [] [0, 1, 2, 3, 4, 5, 6, 7, 8, 9] rfl rfl (by decide) (by decide) (fun r_56 u H locs w_57 hP hD hS => ?_)
        obtain ⟨⟩ := u
        have hP : va_P D vwCl [(aI ca h0_law_caseFloor 5 F_h0_law_caseFloor), (aI ca h0_latest 7 g_53), (h0, .inr (10, [.ref h0_tape, .ref h0_law, .ref h0_standing, .ref h0_saying, .ref h0_courtReader, .ref h0_bookReader, .ref h0_sentenceReader, .ref h0_bench, .ref h0_whatIf, .ref h0_history, .ref h0_images, .ref h0_latest, .ref h0_latestBook, .ref h0_latestRoll, .int h0_rollLength])), (h0_bench, .inr (0, [.ref h0_bench_frees, .ref h0_bench_low, .ref h0_bench_high, .ref h0_bench_letGoWeight, .ref h0_bench_holdWeight, .ref h0_bench_heardWith])), (h0_law, .inr (5, [.int h0_law_jurors, .int h0_law_floors, .int h0_law_cases, .int h0_law_one, .int h0_law_dent, .int h0_law_seated, .ref h0_law_jurorName, .ref h0_law_floorName, .ref h0_law_caseName, .ref h0_law_pitch, .ref h0_law_length, .ref h0_law_hands, .ref h0_law_tune, .ref h0_law_dull, .ref h0_law_caseFloor, .ref h0_law_tuned])), (h0_standing, .inr (9, [.int h0_standing_day, .int h0_standing_sits, .int h0_standing_holds, .int h0_standing_trials, .int h0_standing_triedToday, .ref h0_standing_dents, .ref h0_standing_drops, .ref h0_standing_how, .ref h0_standing_triedOn, .ref h0_standing_dropped, .ref h0_standing_heldOn])), (aI ca h0_standing_dents 10 F_h0_standing_dents), (aI ca h0_law_tuned 40 F_h0_law_tuned), (aI ca h0_law_pitch 10 F_h0_law_pitch), (aI ca h0_law_tune 4 F_h0_law_tune)] H := hP
        have hD : va_D A [(aI ca h0_law_caseFloor 5 F_h0_law_caseFloor), (aI ca h0_latest 7 g_53), (h0, .inr (10, [.ref h0_tape, .ref h0_law, .ref h0_standing, .ref h0_saying, .ref h0_courtReader, .ref h0_bookReader, .ref h0_sentenceReader, .ref h0_bench, .ref h0_whatIf, .ref h0_history, .ref h0_images, .ref h0_latest, .ref h0_latestBook, .ref h0_latestRoll, .int h0_rollLength])), (h0_bench, .inr (0, [.ref h0_bench_frees, .ref h0_bench_low, .ref h0_bench_high, .ref h0_bench_letGoWeight, .ref h0_bench_holdWeight, .ref h0_bench_heardWith])), (h0_law, .inr (5, [.int h0_law_jurors, .int h0_law_floors, .int h0_law_cases, .int h0_law_one, .int h0_law_dent, .int h0_law_seated, .ref h0_law_jurorName, .ref h0_law_floorName, .ref h0_law_caseName, .ref h0_law_pitch, .ref h0_law_length, .ref h0_law_hands, .ref h0_law_tune, .ref h0_law_dull, .ref h0_law_caseFloor, .ref h0_law_tuned])), (h0_standing, .inr (9, [.int h0_standing_day, .int h0_standing_sits, .int h0_standing_holds, .int h0_standing_trials, .int h0_standing_triedToday, .ref h0_standing_dents, .ref h0_standing_drops, .ref h0_standing_how, .ref h0_standing_triedOn, .ref h0_standing_dropped, .ref h0_standing_heldOn])), (aI ca h0_standing_dents 10 F_h0_standing_dents), (aI ca h0_law_tuned 40 F_h0_law_tuned), (aI ca h0_law_pitch 10 F_h0_law_pitch), (aI ca h0_law_tune 4 F_h0_law_tune)] := hD
        try dsimp only at w_57
        have h_58 := w_57
        exact oE_i hx hb hr rfl hlocks hP hD hS g_53 [2, 5, 4, 0, 3, 6, 7, 8, 9, 1] rfl (by decide) ⟨(rgw (lo := (-1)) (hi := 63) h_58 (by decide) (by decide)), q_55⟩ (Nat.le_of_ble_eq_true rfl) (Nat.le_of_ble_eq_true rfl) dX11_beats_67
      · skip
        have o_59 : rl 0 r_48 (-1) := rl_eq c_51
        have h_60 : rg (-1) (-1) r_48 := rl_x o_59 h_50 (⟨by decide, by decide⟩ : rg (-1) (-1) ((-1) : Int32)) (by decide) (by decide)
        have o_61 : rl 0 (-1) r_48 := rl_eq c_51.symm
        refine lv_iconst (v := (-1)) hx hb dX11_beats_53 (by decide) ?_
        exact oE_i hx hb hr rfl hlocks hP hD hS F_h0_latest [2, 5, 4, 0, 3, 6, 7, 8, 9, 1] rfl (by decide) ⟨(⟨by decide, by decide⟩ : rg (-1) 63 ((-1) : Int32)), (eqs_w (a' := 0) (b' := 6) (eqs_rf (a := 0) (b := 7) F_h0_latest) (by decide) (by decide))⟩ (Nat.le_of_ble_eq_true rfl) (Nat.le_of_ble_eq_true rfl) dX11_beats_54
    · skip
      have o_62 : rl 0 r_33 0 := rl_eq c_44
      have h_63 : rg 0 0 r_33 := rl_x o_62 h_35 (⟨by decide, by decide⟩ : rg 0 0 (0 : Int32)) (by decide) (by decide)
      have o_64 : rl 0 0 r_33 := rl_eq c_44.symm
      refine lv_iconst (v := (-1)) hx hb dX11_beats_20 (by decide) ?_
      exact oE_i hx hb hr rfl hlocks hP hD hS F_h0_latest [8, 7, 9, 0, 1, 2, 3, 4, 5, 6] rfl (by decide) ⟨(⟨by decide, by decide⟩ : rg (-1) 63 ((-1) : Int32)), (eqs_w (a' := 0) (b' := 6) (eqs_rf (a := 0) (b := 7) F_h0_latest) (by decide) (by decide))⟩ (Nat.le_of_ble_eq_true rfl) (Nat.le_of_ble_eq_true rfl) dX11_beats_21
theorem dX11_beating_0 : decode cX11_beating 0 = .ok (.aload_n 0, 1) := by decide +kernel
theorem dX11_beating_1 : decode cX11_beating 1 = .ok (.getfield 83, 3) := by decide +kernel
theorem dX11_beating_4 : decode cX11_beating 4 = .ok (.bipush 6, 2) := by decide +kernel
theorem dX11_beating_6 : decode cX11_beating 6 = .ok (.iaload, 1) := by decide +kernel
theorem dX11_beating_7 : decode cX11_beating 7 = .ok (.ireturn, 1) := by decide +kernel
set_option maxHeartbeats 4000000 in
set_option maxRecDepth 100000 in
theorem s_X11_beating (l : Launch) (D : va_G) (ca : Nat → ClassId) (sz : Nat) (h0 : Nat) (h0_tape : Nat) (h0_law : Nat) (h0_standing : Nat) (h0_saying : Nat) (h0_courtReader : Nat) (h0_bookReader : Nat) (h0_sentenceReader : Nat) (h0_bench : Nat) (h0_whatIf : Nat) (h0_history : Nat) (h0_images : Nat) (h0_latest : Nat) (h0_latestBook : Nat) (h0_latestRoll : Nat) (h0_rollLength : Int32) (F_h0_latest : Nat → Int32) (i_h0_rollLength : rg 0 40 h0_rollLength) : oMet l yX11_beating wsX11_beating ({ frames := 0, cells := 0, slots := 0, locals := 0 } : Room) [.ref h0] D ca sz [(h0, .inr (10, [.ref h0_tape, .ref h0_law, .ref h0_standing, .ref h0_saying, .ref h0_courtReader, .ref h0_bookReader, .ref h0_sentenceReader, .ref h0_bench, .ref h0_whatIf, .ref h0_history, .ref h0_images, .ref h0_latest, .ref h0_latestBook, .ref h0_latestRoll, .int h0_rollLength])), (aI ca h0_latest 7 F_h0_latest)] (oQi D (fun (r : Int32) (u : Unit) => (r = F_h0_latest (6 : Int32).toNatClampNeg)) (fun (u : Unit) => [(h0, .inr (10, [.ref h0_tape, .ref h0_law, .ref h0_standing, .ref h0_saying, .ref h0_courtReader, .ref h0_bookReader, .ref h0_sentenceReader, .ref h0_bench, .ref h0_whatIf, .ref h0_history, .ref h0_images, .ref h0_latest, .ref h0_latestBook, .ref h0_latestRoll, .int h0_rollLength])), (aI ca h0_latest 7 F_h0_latest)])) 0 0 := by
  refine oM (cc := cX11_beating) (maxL := 1) (ret := (some .int)) (by decide) rfl (Nat.le_of_ble_eq_true rfl) [(0, .ref h0)] rfl ?_
  intro p e s m below meth c A H locs ls hx hb hr hml hts hown hlocks hin hK hP hD hA hS hl
  have hown : s.vm.findClass RX11 = some m.cls := hown
  have k1 := hts (.fieldLink RX11 83 "LidCourt" "latest" "[I") (by decide +kernel)
  have k2 : ∀ w ∈ wsX110, w ∈ wsX11_beating := fun _ h => List.mem_cons_of_mem _ (List.mem_append_right _ h)
  refine lv_aload_n hx hb dX11_beating_0 rfl (lv_at hl 0 rfl) ?_
  refine va_get (D := D) (ci := 10) (v := .ref h0_latest) (C := RX11) (T := TX11) (N := 15) hx hb hts k2 hown hK.1 hP 0 rfl rfl 11 (by decide) k1 (fun _ h9 => h9) rfl dX11_beating_1 ?_
  refine lv_bipush (v := 6) hx hb dX11_beating_4 (by decide) ?_
  refine va_iald hx hb hK.1 hP 1 0 rfl rfl (rg_in (⟨by decide, by decide⟩ : rg 6 6 (6 : Int32)) (by decide) (by decide)) dX11_beating_6 ?_
  refine lv_topi (fun x_2 ex_2 => ?_)
  exact oE_i hx hb hr rfl hlocks hP hD hS () [0, 1] rfl (by decide) ex_2 (Nat.le_of_ble_eq_true rfl) (Nat.le_of_ble_eq_true rfl) dX11_beating_7
theorem dX11_writeLetter_0 : decode cX11_writeLetter 0 = .ok (.aload_n 0, 1) := by decide +kernel
theorem dX11_writeLetter_1 : decode cX11_writeLetter 1 = .ok (.getfield 303, 3) := by decide +kernel
theorem dX11_writeLetter_4 : decode cX11_writeLetter 4 = .ok (.bipush 40, 2) := by decide +kernel
theorem dX11_writeLetter_6 : decode cX11_writeLetter 6 = .ok (.if_icmp .ge 23, 3) := by decide +kernel
theorem dX11_writeLetter_9 : decode cX11_writeLetter 9 = .ok (.aload_n 0, 1) := by decide +kernel
theorem dX11_writeLetter_10 : decode cX11_writeLetter 10 = .ok (.getfield 90, 3) := by decide +kernel
theorem dX11_writeLetter_13 : decode cX11_writeLetter 13 = .ok (.aload_n 0, 1) := by decide +kernel
theorem dX11_writeLetter_14 : decode cX11_writeLetter 14 = .ok (.getfield 303, 3) := by decide +kernel
theorem dX11_writeLetter_17 : decode cX11_writeLetter 17 = .ok (.iload_n 1, 1) := by decide +kernel
theorem dX11_writeLetter_18 : decode cX11_writeLetter 18 = .ok (.castore, 1) := by decide +kernel
theorem dX11_writeLetter_19 : decode cX11_writeLetter 19 = .ok (.aload_n 0, 1) := by decide +kernel
theorem dX11_writeLetter_20 : decode cX11_writeLetter 20 = .ok (.dup, 1) := by decide +kernel
theorem dX11_writeLetter_21 : decode cX11_writeLetter 21 = .ok (.getfield 303, 3) := by decide +kernel
theorem dX11_writeLetter_24 : decode cX11_writeLetter 24 = .ok (.iconst 1, 1) := by decide +kernel
theorem dX11_writeLetter_25 : decode cX11_writeLetter 25 = .ok (.iadd, 1) := by decide +kernel
theorem dX11_writeLetter_26 : decode cX11_writeLetter 26 = .ok (.putfield 303, 3) := by decide +kernel
theorem dX11_writeLetter_29 : decode cX11_writeLetter 29 = .ok (.return_, 1) := by decide +kernel
set_option maxHeartbeats 4000000 in
set_option maxRecDepth 100000 in
theorem s_X11_writeLetter (l : Launch) (D : va_G) (ca : Nat → ClassId) (sz : Nat) (h0 : Nat) (a1 : Int32) (h0_tape : Nat) (h0_law : Nat) (h0_standing : Nat) (h0_saying : Nat) (h0_courtReader : Nat) (h0_bookReader : Nat) (h0_sentenceReader : Nat) (h0_bench : Nat) (h0_whatIf : Nat) (h0_history : Nat) (h0_images : Nat) (h0_latest : Nat) (h0_latestBook : Nat) (h0_latestRoll : Nat) (h0_rollLength : Int32) (F_h0_latestRoll : Nat → Int32) (i_h0_rollLength : rg 0 40 h0_rollLength) : oMet l yX11_writeLetter wsX11_writeLetter ({ frames := 0, cells := 0, slots := 0, locals := 0 } : Room) [.ref h0, .int a1] D ca sz [(h0, .inr (10, [.ref h0_tape, .ref h0_law, .ref h0_standing, .ref h0_saying, .ref h0_courtReader, .ref h0_bookReader, .ref h0_sentenceReader, .ref h0_bench, .ref h0_whatIf, .ref h0_history, .ref h0_images, .ref h0_latest, .ref h0_latestBook, .ref h0_latestRoll, .int h0_rollLength])), (aC ca h0_latestRoll 40 F_h0_latestRoll)] (oQv D (fun (u : Int32 × (Nat → Int32)) => (rg 1 40 u.1) ∧ (rl 0 h0_rollLength u.1) ∧ (rl (-1) u.1 h0_rollLength)) (fun (u : Int32 × (Nat → Int32)) => [(h0, .inr (10, [.ref h0_tape, .ref h0_law, .ref h0_standing, .ref h0_saying, .ref h0_courtReader, .ref h0_bookReader, .ref h0_sentenceReader, .ref h0_bench, .ref h0_whatIf, .ref h0_history, .ref h0_images, .ref h0_latest, .ref h0_latestBook, .ref h0_latestRoll, .int u.1])), (aC ca h0_latestRoll 40 u.2)])) 0 0 := by
  refine oM (cc := cX11_writeLetter) (maxL := 2) (ret := none) (by decide) rfl (Nat.le_of_ble_eq_true rfl) [(0, .ref h0), (1, .int a1)] rfl ?_
  intro p e s m below meth c A H locs ls hx hb hr hml hts hown hlocks hin hK hP hD hA hS hl
  have hown : s.vm.findClass RX11 = some m.cls := hown
  have k1 := hts (.fieldLink RX11 303 "LidCourt" "rollLength" "I") (by decide +kernel)
  have k2 : ∀ w ∈ wsX110, w ∈ wsX11_writeLetter := fun _ h => List.mem_cons_of_mem _ (List.mem_append_right _ h)
  have k3 := hts (.fieldLink RX11 90 "LidCourt" "latestRoll" "[C") (by decide +kernel)
  refine lv_aload_n hx hb dX11_writeLetter_0 rfl (lv_at hl 0 rfl) ?_
  refine va_get (D := D) (ci := 10) (v := .int h0_rollLength) (C := RX11) (T := TX11) (N := 15) hx hb hts k2 hown hK.1 hP 0 rfl rfl 14 (by decide) k1 (fun _ h9 => h9) rfl dX11_writeLetter_1 ?_
  refine lv_bipush (v := 40) hx hb dX11_writeLetter_4 (by decide) ?_
  refine lv_icmp_ge (tgt := 29) hx hb dX11_writeLetter_6 (by decide) (fun c_10 => ?_) (fun c_10 => ?_)
  · skip
    have o_11 : rl 0 40 h0_rollLength := rl_le c_10
    have h_12 : rg 40 40 h0_rollLength := rl_y o_11 (⟨by decide, by decide⟩ : rg 40 40 (40 : Int32)) i_h0_rollLength (by decide) (by decide)
    exact oE_v hx hb hr hlocks hP hD hS (h0_rollLength, F_h0_latestRoll) [0, 1] rfl (by decide) ⟨(rgw (lo := 1) (hi := 40) h_12 (by decide) (by decide)), (show rl 0 h0_rollLength h0_rollLength from rlm (by omega)), (show rl (-1) h0_rollLength h0_rollLength from rlm (by omega))⟩ (Nat.le_of_ble_eq_true rfl) (Nat.le_of_ble_eq_true rfl) dX11_writeLetter_29
  · skip
    have o_13 : rl 1 h0_rollLength 40 := rl_nle c_10
    have h_14 : rg 0 39 h0_rollLength := rl_x o_13 i_h0_rollLength (⟨by decide, by decide⟩ : rg 40 40 (40 : Int32)) (by decide) (by decide)
    refine lv_aload_n hx hb dX11_writeLetter_9 rfl (lv_at hl 0 rfl) ?_
    refine va_get (D := D) (ci := 10) (v := .ref h0_latestRoll) (C := RX11) (T := TX11) (N := 15) hx hb hts k2 hown hK.1 hP 0 rfl rfl 13 (by decide) k3 (fun _ h9 => h9) rfl dX11_writeLetter_10 ?_
    refine lv_aload_n hx hb dX11_writeLetter_13 rfl (lv_at hl 0 rfl) ?_
    refine va_get (D := D) (ci := 10) (v := .int h0_rollLength) (C := RX11) (T := TX11) (N := 15) hx hb hts k2 hown hK.1 hP 0 rfl rfl 14 (by decide) k1 (fun _ h9 => h9) rfl dX11_writeLetter_14 ?_
    refine lv_iload_n hx hb dX11_writeLetter_17 rfl (lv_at hl 1 rfl) ?_
    refine va_cast hx hb hK.1 hP hD hS 1 3 rfl rfl (rg_in h_14 (by decide) (by decide)) dX11_writeLetter_18 (fun H locs hP hD hS => ?_)
    obtain ⟨g_15, eg_15⟩ : ∃ y : Nat → Int32, y = upd F_h0_latestRoll (h0_rollLength : Int32).toNatClampNeg (vp_nar .char a1) := ⟨_, rfl⟩
    rw [← eg_15] at hP hD
    have hP : va_P D vwCl [(h0, .inr (10, [.ref h0_tape, .ref h0_law, .ref h0_standing, .ref h0_saying, .ref h0_courtReader, .ref h0_bookReader, .ref h0_sentenceReader, .ref h0_bench, .ref h0_whatIf, .ref h0_history, .ref h0_images, .ref h0_latest, .ref h0_latestBook, .ref h0_latestRoll, .int h0_rollLength])), (aC ca h0_latestRoll 40 g_15)] H := hP
    have hD : va_D A [(h0, .inr (10, [.ref h0_tape, .ref h0_law, .ref h0_standing, .ref h0_saying, .ref h0_courtReader, .ref h0_bookReader, .ref h0_sentenceReader, .ref h0_bench, .ref h0_whatIf, .ref h0_history, .ref h0_images, .ref h0_latest, .ref h0_latestBook, .ref h0_latestRoll, .int h0_rollLength])), (aC ca h0_latestRoll 40 g_15)] := hD
    refine lv_aload_n hx hb dX11_writeLetter_19 rfl (lv_at hl 0 rfl) ?_
    refine lv_dup hx hb dX11_writeLetter_20 rfl ?_
    refine va_get (D := D) (ci := 10) (v := .int h0_rollLength) (C := RX11) (T := TX11) (N := 15) hx hb hts k2 hown hK.1 hP 0 rfl rfl 14 (by decide) k1 (fun _ h9 => h9) rfl dX11_writeLetter_21 ?_
    refine lv_iconst (v := 1) hx hb dX11_writeLetter_24 (by decide) ?_
    refine lv_iadd hx hb dX11_writeLetter_25 ?_
    refine lv_topi (fun x_16 ex_16 => ?_)
    have h_17 : rg 1 40 x_16 := by rw [ex_16]; exact rg_add h_14 (⟨by decide, by decide⟩ : rg 1 1 (1 : Int32)) (by decide) (by decide) (by decide) (by decide)
    have l_18 : lq x_16.toInt (h0_rollLength.toInt + 1) := lqm (by rw [ex_16]; have q := tadd h_14 (⟨by decide, by decide⟩ : rg 1 1 (1 : Int32)) (by decide) (by decide); have r1 := lqe (lqm (by decide) : lq (1 : Int32).toInt 1); omega)
    refine va_put (D := D) (ci := 10) (v := .int x_16) (ty := .int) (C := RX11) (T := TX11) (N := 15) hx hb hts k2 tyX11 tyX11_ok nmX11 hown hK.1 hP hD hS 0 rfl rfl 14 (by decide) k1 (fun _ h9 => h9) rfl (by decide +kernel) rfl rfl (Nat.le_of_ble_eq_true rfl) dX11_writeLetter_26 (fun H locs hP hD hS => ?_)
    have hP : va_P D vwCl [(h0, .inr (10, [.ref h0_tape, .ref h0_law, .ref h0_standing, .ref h0_saying, .ref h0_courtReader, .ref h0_bookReader, .ref h0_sentenceReader, .ref h0_bench, .ref h0_whatIf, .ref h0_history, .ref h0_images, .ref h0_latest, .ref h0_latestBook, .ref h0_latestRoll, .int x_16])), (aC ca h0_latestRoll 40 g_15)] H := hP
    have hD : va_D A [(h0, .inr (10, [.ref h0_tape, .ref h0_law, .ref h0_standing, .ref h0_saying, .ref h0_courtReader, .ref h0_bookReader, .ref h0_sentenceReader, .ref h0_bench, .ref h0_whatIf, .ref h0_history, .ref h0_images, .ref h0_latest, .ref h0_latestBook, .ref h0_latestRoll, .int x_16])), (aC ca h0_latestRoll 40 g_15)] := hD
    exact oE_v hx hb hr hlocks hP hD hS (x_16, g_15) [0, 1] rfl (by decide) ⟨h_17, (show rl 0 h0_rollLength x_16 from rlm (by have q0 := lqe l_18; omega)), (show rl (-1) x_16 h0_rollLength from rlm (by have q0 := lqe l_18; omega))⟩ (Nat.le_of_ble_eq_true rfl) (Nat.le_of_ble_eq_true rfl) dX11_writeLetter_29
theorem dX11_writeName_0 : decode cX11_writeName 0 = .ok (.bipush 6, 2) := by decide +kernel
theorem dX11_writeName_2 : decode cX11_writeName 2 = .ok (.istore_n 3, 1) := by decide +kernel
theorem dX11_writeName_3 : decode cX11_writeName 3 = .ok (.iload_n 3, 1) := by decide +kernel
theorem dX11_writeName_4 : decode cX11_writeName 4 = .ok (.ifCond .lt 36, 3) := by decide +kernel
theorem dX11_writeName_7 : decode cX11_writeName 7 = .ok (.lload_n 1, 1) := by decide +kernel
theorem dX11_writeName_8 : decode cX11_writeName 8 = .ok (.iconst 5, 1) := by decide +kernel
theorem dX11_writeName_9 : decode cX11_writeName 9 = .ok (.iload_n 3, 1) := by decide +kernel
theorem dX11_writeName_10 : decode cX11_writeName 10 = .ok (.imul, 1) := by decide +kernel
theorem dX11_writeName_11 : decode cX11_writeName 11 = .ok (.lshr, 1) := by decide +kernel
theorem dX11_writeName_12 : decode cX11_writeName 12 = .ok (.ldc2_w 393, 3) := by decide +kernel
theorem dX11_writeName_15 : decode cX11_writeName 15 = .ok (.land, 1) := by decide +kernel
theorem dX11_writeName_16 : decode cX11_writeName 16 = .ok (.l2i, 1) := by decide +kernel
theorem dX11_writeName_17 : decode cX11_writeName 17 = .ok (.istore 4, 2) := by decide +kernel
theorem dX11_writeName_19 : decode cX11_writeName 19 = .ok (.iload 4, 2) := by decide +kernel
theorem dX11_writeName_21 : decode cX11_writeName 21 = .ok (.ifCond .eq 13, 3) := by decide +kernel
theorem dX11_writeName_24 : decode cX11_writeName 24 = .ok (.aload_n 0, 1) := by decide +kernel
theorem dX11_writeName_25 : decode cX11_writeName 25 = .ok (.bipush 96, 2) := by decide +kernel
theorem dX11_writeName_27 : decode cX11_writeName 27 = .ok (.iload 4, 2) := by decide +kernel
theorem dX11_writeName_29 : decode cX11_writeName 29 = .ok (.iadd, 1) := by decide +kernel
theorem dX11_writeName_30 : decode cX11_writeName 30 = .ok (.i2c, 1) := by decide +kernel
theorem dX11_writeName_31 : decode cX11_writeName 31 = .ok (.invokevirtual 324, 3) := by decide +kernel
theorem dX11_writeName_34 : decode cX11_writeName 34 = .ok (.iinc 3 (-1), 3) := by decide +kernel
theorem dX11_writeName_37 : decode cX11_writeName 37 = .ok (.goto (-34), 3) := by decide +kernel
theorem dX11_writeName_40 : decode cX11_writeName 40 = .ok (.return_, 1) := by decide +kernel
set_option maxRecDepth 20000 in
theorem ggX11_writeName_X11_writeLetter : GoodIn wsX11_writeName wsX11_writeLetter := goodIn_r _ [6, 7, 8, 9, 10, 11, 12, 13, 14, 15, 16, 17, 18, 19, 20, 21, 22, 23] rfl (by decide +kernel)
set_option maxRecDepth 20000 in
theorem gX11_writeName_X11_writeLetter : GoodIn wsX11_writeName (wsV RX11 324 RX11 yX11_writeLetter wsX11_writeLetter) := goodIn_app (goodIn_of _ (by decide +kernel)) ggX11_writeName_X11_writeLetter
set_option maxHeartbeats 4000000 in
set_option maxRecDepth 100000 in
theorem s_X11_writeName (l : Launch) (D : va_G) (ca : Nat → ClassId) (sz : Nat) (h0 : Nat) (a1 : Int64) (h0_tape : Nat) (h0_law : Nat) (h0_standing : Nat) (h0_saying : Nat) (h0_courtReader : Nat) (h0_bookReader : Nat) (h0_sentenceReader : Nat) (h0_bench : Nat) (h0_whatIf : Nat) (h0_history : Nat) (h0_images : Nat) (h0_latest : Nat) (h0_latestBook : Nat) (h0_latestRoll : Nat) (h0_rollLength : Int32) (F_h0_latestRoll : Nat → Int32) (i_h0_rollLength : rg 0 40 h0_rollLength) : oMet l yX11_writeName wsX11_writeName ({ frames := 1, cells := 0, slots := 0, locals := 21 } : Room) [.ref h0, .long a1] D ca sz [(h0, .inr (10, [.ref h0_tape, .ref h0_law, .ref h0_standing, .ref h0_saying, .ref h0_courtReader, .ref h0_bookReader, .ref h0_sentenceReader, .ref h0_bench, .ref h0_whatIf, .ref h0_history, .ref h0_images, .ref h0_latest, .ref h0_latestBook, .ref h0_latestRoll, .int h0_rollLength])), (aC ca h0_latestRoll 40 F_h0_latestRoll)] (oQv D (fun (u : Int32 × (Nat → Int32)) => (rg 0 40 u.1) ∧ (rl 0 h0_rollLength u.1)) (fun (u : Int32 × (Nat → Int32)) => [(h0, .inr (10, [.ref h0_tape, .ref h0_law, .ref h0_standing, .ref h0_saying, .ref h0_courtReader, .ref h0_bookReader, .ref h0_sentenceReader, .ref h0_bench, .ref h0_whatIf, .ref h0_history, .ref h0_images, .ref h0_latest, .ref h0_latestBook, .ref h0_latestRoll, .int u.1])), (aC ca h0_latestRoll 40 u.2)])) 0 0 := by
  refine oM (cc := cX11_writeName) (maxL := 5) (ret := none) (by decide) rfl (Nat.le_of_ble_eq_true rfl) [(0, .ref h0), (1, .long a1)] rfl ?_
  intro p e s m below meth c A H locs ls hx hb hr hml hts hown hlocks hin hK hP hD hA hS hl
  have hown : s.vm.findClass RX11 = some m.cls := hown
  have k1 := hts (.constantLong RX11 393 31) (by decide +kernel)
  have J3_138 : ∀ (n : Nat) (y3_0 : Int32) (y3_1 : Int32) (f3_2 : Nat → Int32), True → rg (-1) 6 y3_0 → rg 0 40 y3_1 → rl 0 h0_rollLength y3_1 → y3_0.toInt < (-1) + (n : Int) → ∀ (H : Heap) (locs : List Loc) (ls : Array Slot), va_P D vwCl [(h0, .inr (10, [.ref h0_tape, .ref h0_law, .ref h0_standing, .ref h0_saying, .ref h0_courtReader, .ref h0_bookReader, .ref h0_sentenceReader, .ref h0_bench, .ref h0_whatIf, .ref h0_history, .ref h0_images, .ref h0_latest, .ref h0_latestBook, .ref h0_latestRoll, .int y3_1])), (aC ca h0_latestRoll 40 f3_2)] H → va_D A [(h0, .inr (10, [.ref h0_tape, .ref h0_law, .ref h0_standing, .ref h0_saying, .ref h0_courtReader, .ref h0_bookReader, .ref h0_sentenceReader, .ref h0_bench, .ref h0_whatIf, .ref h0_history, .ref h0_images, .ref h0_latest, .ref h0_latestBook, .ref h0_latestRoll, .int y3_1])), (aC ca h0_latestRoll 40 f3_2)] → va_S A s.heap H locs → lv_has ls 5 [(0, .ref h0), (1, .long a1), (3, .int y3_0)] → W p l e ({ frames := 1, cells := 0, slots := 0, locals := 21 } : Room) s m ([.ref h0, .long a1] : List Value).toArray below meth c H locs 0 0 (MQ below ((oQv D (fun (u : Int32 × (Nat → Int32)) => (rg 0 40 u.1) ∧ (rl 0 h0_rollLength u.1)) (fun (u : Int32 × (Nat → Int32)) => [(h0, .inr (10, [.ref h0_tape, .ref h0_law, .ref h0_standing, .ref h0_saying, .ref h0_courtReader, .ref h0_bookReader, .ref h0_sentenceReader, .ref h0_bench, .ref h0_whatIf, .ref h0_history, .ref h0_images, .ref h0_latest, .ref h0_latestBook, .ref h0_latestRoll, .int u.1])), (aC ca h0_latestRoll 40 u.2)])) A) ([.ref h0, .long a1] : List Value).toArray s 0 0 A) (F0 m 3 ls []) := by
    intro n
    induction n with
    | zero => intro y3_0 y3_1 f3_2 _ hy3_0 hy3_1 py3_1_h0_rollLength hn; exact absurd hn (by have q9 := hy3_0.1; omega)
    | succ n ih =>
      intro y3_0 y3_1 f3_2 _ hy3_0 hy3_1 py3_1_h0_rollLength hn H locs ls hP hD hS hl
      have J34_167 : ∀ (y34_0 : Int32) (f34_1 : Nat → Int32), rg 0 40 y34_0 → rl 0 y3_1 y34_0 → rl (-1) y34_0 y3_1 → rl 0 h0_rollLength y34_0 → rg 0 6 y3_0 → ∀ (H : Heap) (locs : List Loc) (ls : Array Slot), va_P D vwCl [(h0, .inr (10, [.ref h0_tape, .ref h0_law, .ref h0_standing, .ref h0_saying, .ref h0_courtReader, .ref h0_bookReader, .ref h0_sentenceReader, .ref h0_bench, .ref h0_whatIf, .ref h0_history, .ref h0_images, .ref h0_latest, .ref h0_latestBook, .ref h0_latestRoll, .int y34_0])), (aC ca h0_latestRoll 40 f34_1)] H → va_D A [(h0, .inr (10, [.ref h0_tape, .ref h0_law, .ref h0_standing, .ref h0_saying, .ref h0_courtReader, .ref h0_bookReader, .ref h0_sentenceReader, .ref h0_bench, .ref h0_whatIf, .ref h0_history, .ref h0_images, .ref h0_latest, .ref h0_latestBook, .ref h0_latestRoll, .int y34_0])), (aC ca h0_latestRoll 40 f34_1)] → va_S A s.heap H locs → lv_has ls 5 [(0, .ref h0), (1, .long a1), (3, .int y3_0)] → W p l e ({ frames := 1, cells := 0, slots := 0, locals := 21 } : Room) s m ([.ref h0, .long a1] : List Value).toArray below meth c H locs 0 0 (MQ below ((oQv D (fun (u : Int32 × (Nat → Int32)) => (rg 0 40 u.1) ∧ (rl 0 h0_rollLength u.1)) (fun (u : Int32 × (Nat → Int32)) => [(h0, .inr (10, [.ref h0_tape, .ref h0_law, .ref h0_standing, .ref h0_saying, .ref h0_courtReader, .ref h0_bookReader, .ref h0_sentenceReader, .ref h0_bench, .ref h0_whatIf, .ref h0_history, .ref h0_images, .ref h0_latest, .ref h0_latestBook, .ref h0_latestRoll, .int u.1])), (aC ca h0_latestRoll 40 u.2)])) A) ([.ref h0, .long a1] : List Value).toArray s 0 0 A) (F0 m 34 ls []) := by
        intro y34_0 f34_1 hy34_0 py34_0_y3_1 qy34_0_y3_1 py34_0_h0_rollLength t34_y3_0 H locs ls hP hD hS hl
        obtain ⟨x_168, ex_168⟩ : ∃ y : Int32, y = y3_0 + (-1) := ⟨_, rfl⟩
        have h_169 : rg (-1) 5 x_168 := by rw [ex_168]; exact rg_add t34_y3_0 (⟨by decide, by decide⟩ : rg (-1) (-1) ((-1) : Int32)) (by decide) (by decide) (by decide) (by decide)
        have l_170 : lq x_168.toInt (y3_0.toInt + (-1)) := lqm (by rw [ex_168]; have q := tadd t34_y3_0 (⟨by decide, by decide⟩ : rg (-1) (-1) ((-1) : Int32)) (by decide) (by decide); have r1 := lqe (lqm (by decide) : lq ((-1) : Int32).toInt (-1)); omega)
        refine lv_iinc (v := x_168) (lv' := [(3, .int x_168), (0, .ref h0), (1, .long a1)]) hx hb dX11_writeName_34 hl (k := 2) rfl (by rw [ex_168]; rfl) (by decide) rfl (fun ls hl => ?_)
        refine lv_goto (tgt := 3) hx hb dX11_writeName_37 (by decide) ?_
        exact ih x_168 y34_0 f34_1 trivial (rgw (lo := (-1)) (hi := 6) h_169 (by decide) (by decide)) hy34_0 (rlm (by have q0 := rle py34_0_h0_rollLength; omega)) (by have q0 := lqe l_170; omega) H locs ls (oPsub hP [0, 1] rfl) (hD.sub [0, 1] (by decide) rfl) hS (lv_sub hl [1, 2, 0] rfl)
      refine lv_iload_n hx hb dX11_writeName_3 rfl (lv_at hl 2 rfl) ?_
      refine lv_if_lt (tgt := 40) hx hb dX11_writeName_4 (by decide) (fun c_171 => ?_) (fun c_171 => ?_)
      · skip
        have o_172 : rl 1 y3_0 0 := rl_lt c_171
        have h_173 : rg (-1) (-1) y3_0 := rl_x o_172 hy3_0 (⟨by decide, by decide⟩ : rg 0 0 (0 : Int32)) (by decide) (by decide)
        exact oE_v hx hb hr hlocks hP hD hS (y3_1, f3_2) [0, 1] rfl (by decide) ⟨hy3_1, (show rl 0 h0_rollLength y3_1 from rlm (by have q0 := rle py3_1_h0_rollLength; omega))⟩ (Nat.le_of_ble_eq_true rfl) (Nat.le_of_ble_eq_true rfl) dX11_writeName_40
      · skip
        have o_174 : rl 0 0 y3_0 := rl_nlt c_171
        have h_175 : rg 0 6 y3_0 := rl_y o_174 (⟨by decide, by decide⟩ : rg 0 0 (0 : Int32)) hy3_0 (by decide) (by decide)
        refine lv_lload_n hx hb dX11_writeName_7 rfl (lv_at hl 1 rfl) ?_
        refine lv_iconst (v := 5) hx hb dX11_writeName_8 (by decide) ?_
        refine lv_iload_n hx hb dX11_writeName_9 rfl (lv_at hl 2 rfl) ?_
        refine lv_imul hx hb dX11_writeName_10 ?_
        refine lv_topi (fun x_176 ex_176 => ?_)
        have h_177 : rg 0 30 x_176 := by rw [ex_176]; exact rg_mul' (k := 5) h_175 (by decide) (by decide) (by decide) (by decide) (by decide) (by decide)
        have l_178 : lq x_176.toInt (5 * y3_0.toInt) := lqm (by rw [ex_176]; have q := tmul' (k := 5) (y := 5) h_175 (by decide) (by decide) (by decide) (by decide); omega)
        refine lv_lshr hx hb dX11_writeName_11 rfl ?_
        refine lv_topl (fun x_179 ex_179 => ?_)
        refine lv_ldc2 (v := 31) hx hb hown k1 dX11_writeName_12 ?_
        refine lv_land hx hb dX11_writeName_15 ?_
        refine lv_topl (fun x_180 ex_180 => ?_)
        refine lv_l2i hx hb dX11_writeName_16 rfl ?_
        refine lv_topi (fun x_181 ex_181 => ?_)
        refine lv_istore (lv' := [(4, .int x_181), (0, .ref h0), (1, .long a1), (3, .int y3_0)]) hx hb dX11_writeName_17 hl (by decide) rfl (fun ls hl => ?_)
        refine lv_iload hx hb dX11_writeName_19 (lv_at hl 0 rfl) ?_
        refine lv_if_eq (tgt := 34) hx hb dX11_writeName_21 (by decide) (fun c_182 => ?_) (fun c_182 => ?_)
        · skip
          have o_183 : rl 0 x_181 0 := rl_eq c_182
          have h_184 : rg (-2147483648) 0 x_181 := rl_x o_183 (rga x_181) (⟨by decide, by decide⟩ : rg 0 0 (0 : Int32)) (by decide) (by decide)
          have o_185 : rl 0 0 x_181 := rl_eq c_182.symm
          have h_186 : rg 0 0 x_181 := rl_y o_185 (⟨by decide, by decide⟩ : rg 0 0 (0 : Int32)) h_184 (by decide) (by decide)
          exact J34_167 y3_1 f3_2 hy3_1 (rlm (by omega)) (rlm (by omega)) (rlm (by have q0 := rle py3_1_h0_rollLength; omega)) h_175 H locs ls (oPsub hP [0, 1] rfl) (hD.sub [0, 1] (by decide) rfl) hS (lv_sub hl [1, 2, 3] rfl)
        · skip
          refine lv_aload_n hx hb dX11_writeName_24 rfl (lv_at hl 1 rfl) ?_
          refine lv_bipush (v := 96) hx hb dX11_writeName_25 (by decide) ?_
          refine lv_iload hx hb dX11_writeName_27 (lv_at hl 0 rfl) ?_
          refine lv_iadd hx hb dX11_writeName_29 ?_
          refine lv_topi (fun x_187 ex_187 => ?_)
          refine lv_i2c hx hb dX11_writeName_30 rfl ?_
          refine lv_topi (fun x_188 ex_188 => ?_)
          refine oC_v (Wc := [(h0, .inr (10, [.ref h0_tape, .ref h0_law, .ref h0_standing, .ref h0_saying, .ref h0_courtReader, .ref h0_bookReader, .ref h0_sentenceReader, .ref h0_bench, .ref h0_whatIf, .ref h0_history, .ref h0_images, .ref h0_latest, .ref h0_latestBook, .ref h0_latestRoll, .int y3_1])), (aC ca h0_latestRoll 40 f3_2)]) (Wr := []) (va_runV (As := [.int x_188]) (rest := []) ⟨hx, hb, hml, hown, hts⟩ (s_X11_writeLetter l D ca H.size h0 x_188 h0_tape h0_law h0_standing h0_saying h0_courtReader h0_bookReader h0_sentenceReader h0_bench h0_whatIf h0_history h0_images h0_latest h0_latestBook h0_latestRoll y3_1 f3_2 hy3_1) (cwV 1 hts gX11_writeName_X11_writeLetter rfl rfl rfl (by decide +kernel) ⟨Nat.le_of_ble_eq_true rfl, Nat.le_of_ble_eq_true rfl⟩) (oPV (C := RX11) hK hP hD [0, 1] rfl (by decide) 0 rfl (ci := 10) rfl rfl) rfl rfl hl.1 rfl (lv_room (Nat.le_of_ble_eq_true rfl)) dX11_writeName_31 ⟨Nat.le_of_ble_eq_true rfl, Nat.le_of_ble_eq_true rfl⟩) hP hD hS hA [0, 1] [] rfl rfl (by decide) (by decide) (fun u H locs w_190 hP hD hS => ?_)
          obtain ⟨u_191, u_192⟩ := u
          have hP : va_P D vwCl [(h0, .inr (10, [.ref h0_tape, .ref h0_law, .ref h0_standing, .ref h0_saying, .ref h0_courtReader, .ref h0_bookReader, .ref h0_sentenceReader, .ref h0_bench, .ref h0_whatIf, .ref h0_history, .ref h0_images, .ref h0_latest, .ref h0_latestBook, .ref h0_latestRoll, .int u_191])), (aC ca h0_latestRoll 40 u_192)] H := hP
          have hD : va_D A [(h0, .inr (10, [.ref h0_tape, .ref h0_law, .ref h0_standing, .ref h0_saying, .ref h0_courtReader, .ref h0_bookReader, .ref h0_sentenceReader, .ref h0_bench, .ref h0_whatIf, .ref h0_history, .ref h0_images, .ref h0_latest, .ref h0_latestBook, .ref h0_latestRoll, .int u_191])), (aC ca h0_latestRoll 40 u_192)] := hD
          try dsimp only at w_190
          obtain ⟨h_193, h_194, h_195⟩ := w_190
          exact J34_167 u_191 u_192 (rgw (lo := 0) (hi := 40) h_193 (by decide) (by decide)) (rlm (by have q0 := rle h_194; have q1 := rle h_195; omega)) (rlm (by have q0 := rle h_194; have q1 := rle h_195; omega)) (rlm (by have q0 := rle py3_1_h0_rollLength; have q1 := rle h_194; omega)) h_175 H locs ls (oPsub hP [0, 1] rfl) (hD.sub [0, 1] (by decide) rfl) hS (lv_sub hl [1, 2, 3] rfl)
  refine lv_bipush (v := 6) hx hb dX11_writeName_0 (by decide) ?_
  refine lv_istore_n (lv' := [(3, .int 6), (0, .ref h0), (1, .long a1)]) hx hb dX11_writeName_2 rfl hl (by decide) rfl (fun ls hl => ?_)
  exact J3_138 8 6 h0_rollLength F_h0_latestRoll trivial (⟨by decide, by decide⟩ : rg (-1) 6 (6 : Int32)) i_h0_rollLength (rlm (by omega)) (by have q0 := (⟨by decide, by decide⟩ : rg 6 6 (6 : Int32)).2; omega) H locs ls (oPsub hP [0, 1] rfl) (hD.sub [0, 1] (by decide) rfl) hS (lv_sub hl [1, 2, 0] rfl)
theorem dX11_byteAt_0 : decode cX11_byteAt 0 = .ok (.iload_n 1, 1) := by decide +kernel
theorem dX11_byteAt_1 : decode cX11_byteAt 1 = .ok (.ifCond .lt 11, 3) := by decide +kernel
theorem dX11_byteAt_4 : decode cX11_byteAt 4 = .ok (.iload_n 1, 1) := by decide +kernel
theorem dX11_byteAt_5 : decode cX11_byteAt 5 = .ok (.aload_n 0, 1) := by decide +kernel
theorem dX11_byteAt_6 : decode cX11_byteAt 6 = .ok (.getfield 303, 3) := by decide +kernel
theorem dX11_byteAt_9 : decode cX11_byteAt 9 = .ok (.if_icmp .lt 7, 3) := by decide +kernel
theorem dX11_byteAt_12 : decode cX11_byteAt 12 = .ok (.iconst (-1), 1) := by decide +kernel
theorem dX11_byteAt_13 : decode cX11_byteAt 13 = .ok (.goto 9, 3) := by decide +kernel
theorem dX11_byteAt_16 : decode cX11_byteAt 16 = .ok (.aload_n 0, 1) := by decide +kernel
theorem dX11_byteAt_17 : decode cX11_byteAt 17 = .ok (.getfield 90, 3) := by decide +kernel
theorem dX11_byteAt_20 : decode cX11_byteAt 20 = .ok (.iload_n 1, 1) := by decide +kernel
theorem dX11_byteAt_21 : decode cX11_byteAt 21 = .ok (.caload, 1) := by decide +kernel
theorem dX11_byteAt_22 : decode cX11_byteAt 22 = .ok (.ireturn, 1) := by decide +kernel
set_option maxHeartbeats 4000000 in
set_option maxRecDepth 100000 in
theorem s_X11_byteAt (l : Launch) (D : va_G) (ca : Nat → ClassId) (sz : Nat) (h0 : Nat) (a1 : Int32) (h0_tape : Nat) (h0_law : Nat) (h0_standing : Nat) (h0_saying : Nat) (h0_courtReader : Nat) (h0_bookReader : Nat) (h0_sentenceReader : Nat) (h0_bench : Nat) (h0_whatIf : Nat) (h0_history : Nat) (h0_images : Nat) (h0_latest : Nat) (h0_latestBook : Nat) (h0_latestRoll : Nat) (h0_rollLength : Int32) (F_h0_latestRoll : Nat → Int32) (i_h0_rollLength : rg 0 40 h0_rollLength) : oMet l yX11_byteAt wsX11_byteAt ({ frames := 0, cells := 0, slots := 0, locals := 0 } : Room) [.ref h0, .int a1] D ca sz [(h0, .inr (10, [.ref h0_tape, .ref h0_law, .ref h0_standing, .ref h0_saying, .ref h0_courtReader, .ref h0_bookReader, .ref h0_sentenceReader, .ref h0_bench, .ref h0_whatIf, .ref h0_history, .ref h0_images, .ref h0_latest, .ref h0_latestBook, .ref h0_latestRoll, .int h0_rollLength])), (aC ca h0_latestRoll 40 F_h0_latestRoll)] (oQi D (fun (r : Int32) (u : Unit) => True) (fun (u : Unit) => [(h0, .inr (10, [.ref h0_tape, .ref h0_law, .ref h0_standing, .ref h0_saying, .ref h0_courtReader, .ref h0_bookReader, .ref h0_sentenceReader, .ref h0_bench, .ref h0_whatIf, .ref h0_history, .ref h0_images, .ref h0_latest, .ref h0_latestBook, .ref h0_latestRoll, .int h0_rollLength])), (aC ca h0_latestRoll 40 F_h0_latestRoll)])) 0 0 := by
  refine oM (cc := cX11_byteAt) (maxL := 2) (ret := (some .int)) (by decide) rfl (Nat.le_of_ble_eq_true rfl) [(0, .ref h0), (1, .int a1)] rfl ?_
  intro p e s m below meth c A H locs ls hx hb hr hml hts hown hlocks hin hK hP hD hA hS hl
  have hown : s.vm.findClass RX11 = some m.cls := hown
  have k1 := hts (.fieldLink RX11 303 "LidCourt" "rollLength" "I") (by decide +kernel)
  have k2 : ∀ w ∈ wsX110, w ∈ wsX11_byteAt := fun _ h => List.mem_cons_of_mem _ (List.mem_append_right _ h)
  have k3 := hts (.fieldLink RX11 90 "LidCourt" "latestRoll" "[C") (by decide +kernel)
  refine lv_iload_n hx hb dX11_byteAt_0 rfl (lv_at hl 1 rfl) ?_
  refine lv_if_lt (tgt := 12) hx hb dX11_byteAt_1 (by decide) (fun c_12 => ?_) (fun c_12 => ?_)
  · skip
    have o_13 : rl 1 a1 0 := rl_lt c_12
    have h_14 : rg (-2147483648) (-1) a1 := rl_x o_13 (rga a1) (⟨by decide, by decide⟩ : rg 0 0 (0 : Int32)) (by decide) (by decide)
    refine lv_iconst (v := (-1)) hx hb dX11_byteAt_12 (by decide) ?_
    refine lv_goto (tgt := 22) hx hb dX11_byteAt_13 (by decide) ?_
    exact oE_i hx hb hr rfl hlocks hP hD hS () [0, 1] rfl (by decide) trivial (Nat.le_of_ble_eq_true rfl) (Nat.le_of_ble_eq_true rfl) dX11_byteAt_22
  · skip
    have o_15 : rl 0 0 a1 := rl_nlt c_12
    have h_16 : rg 0 2147483647 a1 := rl_y o_15 (⟨by decide, by decide⟩ : rg 0 0 (0 : Int32)) (rga a1) (by decide) (by decide)
    refine lv_iload_n hx hb dX11_byteAt_4 rfl (lv_at hl 1 rfl) ?_
    refine lv_aload_n hx hb dX11_byteAt_5 rfl (lv_at hl 0 rfl) ?_
    refine va_get (D := D) (ci := 10) (v := .int h0_rollLength) (C := RX11) (T := TX11) (N := 15) hx hb hts k2 hown hK.1 hP 0 rfl rfl 14 (by decide) k1 (fun _ h9 => h9) rfl dX11_byteAt_6 ?_
    refine lv_icmp_lt (tgt := 16) hx hb dX11_byteAt_9 (by decide) (fun c_17 => ?_) (fun c_17 => ?_)
    · skip
      have o_18 : rl 1 a1 h0_rollLength := rl_lt c_17
      have h_19 : rg 0 39 a1 := rl_x o_18 h_16 i_h0_rollLength (by decide) (by decide)
      have h_20 : rg 1 40 h0_rollLength := rl_y o_18 h_16 i_h0_rollLength (by decide) (by decide)
      refine lv_aload_n hx hb dX11_byteAt_16 rfl (lv_at hl 0 rfl) ?_
      refine va_get (D := D) (ci := 10) (v := .ref h0_latestRoll) (C := RX11) (T := TX11) (N := 15) hx hb hts k2 hown hK.1 hP 0 rfl rfl 13 (by decide) k3 (fun _ h9 => h9) rfl dX11_byteAt_17 ?_
      refine lv_iload_n hx hb dX11_byteAt_20 rfl (lv_at hl 1 rfl) ?_
      refine va_cald hx hb hK.1 hP 1 3 rfl rfl (rg_in h_19 (by decide) (by decide)) dX11_byteAt_21 ?_
      refine lv_topi (fun x_21 ex_21 => ?_)
      exact oE_i hx hb hr rfl hlocks hP hD hS () [0, 1] rfl (by decide) trivial (Nat.le_of_ble_eq_true rfl) (Nat.le_of_ble_eq_true rfl) dX11_byteAt_22
    · skip
      have o_22 : rl 0 h0_rollLength a1 := rl_nlt c_17
      refine lv_iconst (v := (-1)) hx hb dX11_byteAt_12 (by decide) ?_
      refine lv_goto (tgt := 22) hx hb dX11_byteAt_13 (by decide) ?_
      exact oE_i hx hb hr rfl hlocks hP hD hS () [0, 1] rfl (by decide) trivial (Nat.le_of_ble_eq_true rfl) (Nat.le_of_ble_eq_true rfl) dX11_byteAt_22
theorem dX9_afterDraw_0 : decode cX9_afterDraw 0 = .ok (.iload_n 0, 1) := by decide +kernel
theorem dX9_afterDraw_1 : decode cX9_afterDraw 1 = .ok (.ldc 132, 2) := by decide +kernel
theorem dX9_afterDraw_3 : decode cX9_afterDraw 3 = .ok (.imul, 1) := by decide +kernel
theorem dX9_afterDraw_4 : decode cX9_afterDraw 4 = .ok (.sipush 12345, 3) := by decide +kernel
theorem dX9_afterDraw_7 : decode cX9_afterDraw 7 = .ok (.iadd, 1) := by decide +kernel
theorem dX9_afterDraw_8 : decode cX9_afterDraw 8 = .ok (.ireturn, 1) := by decide +kernel
set_option maxHeartbeats 4000000 in
set_option maxRecDepth 100000 in
theorem s_X9_afterDraw (l : Launch) (D : va_G) (ca : Nat → ClassId) (sz : Nat) (a1 : Int32)  : oMet l yX9_afterDraw wsX9_afterDraw ({ frames := 0, cells := 0, slots := 0, locals := 0 } : Room) [.int a1] D ca sz [] (oQi D (fun (r : Int32) (u : Unit) => True) (fun (u : Unit) => [])) 0 0 := by
  refine oM (cc := cX9_afterDraw) (maxL := 1) (ret := (some .int)) (by decide) rfl (Nat.le_of_ble_eq_true rfl) [(0, .int a1)] rfl ?_
  intro p e s m below meth c A H locs ls hx hb hr hml hts hown hlocks hin hK hP hD hA hS hl
  have hown : s.vm.findClass RX9 = some m.cls := hown
  have k1 := hts (.constant RX9 132 1103515245) (by decide +kernel)
  refine lv_iload_n hx hb dX9_afterDraw_0 rfl (lv_at hl 0 rfl) ?_
  refine lv_ldc (v := 1103515245) hx hb hown k1 dX9_afterDraw_1 ?_
  refine lv_imul hx hb dX9_afterDraw_3 ?_
  refine lv_topi (fun x_3 ex_3 => ?_)
  refine lv_sipush (v := 12345) hx hb dX9_afterDraw_4 (by decide) ?_
  refine lv_iadd hx hb dX9_afterDraw_7 ?_
  refine lv_topi (fun x_4 ex_4 => ?_)
  exact oE_i hx hb hr rfl hlocks hP hD hS () [] rfl (by decide) trivial (Nat.le_of_ble_eq_true rfl) (Nat.le_of_ble_eq_true rfl) dX9_afterDraw_8
theorem dX9_drawOf_0 : decode cX9_drawOf 0 = .ok (.iload_n 1, 1) := by decide +kernel
theorem dX9_drawOf_1 : decode cX9_drawOf 1 = .ok (.ifCond .le 12, 3) := by decide +kernel
theorem dX9_drawOf_4 : decode cX9_drawOf 4 = .ok (.iload_n 0, 1) := by decide +kernel
theorem dX9_drawOf_5 : decode cX9_drawOf 5 = .ok (.bipush 8, 2) := by decide +kernel
theorem dX9_drawOf_7 : decode cX9_drawOf 7 = .ok (.iushr, 1) := by decide +kernel
theorem dX9_drawOf_8 : decode cX9_drawOf 8 = .ok (.iload_n 1, 1) := by decide +kernel
theorem dX9_drawOf_9 : decode cX9_drawOf 9 = .ok (.irem, 1) := by decide +kernel
theorem dX9_drawOf_10 : decode cX9_drawOf 10 = .ok (.goto 4, 3) := by decide +kernel
theorem dX9_drawOf_14 : decode cX9_drawOf 14 = .ok (.ireturn, 1) := by decide +kernel
set_option maxHeartbeats 4000000 in
set_option maxRecDepth 100000 in
theorem s_X9_drawOf (l : Launch) (D : va_G) (ca : Nat → ClassId) (sz : Nat) (a1 : Int32) (a2 : Int32) (i_a2 : rg 1 12 a2) : oMet l yX9_drawOf wsX9_drawOf ({ frames := 0, cells := 0, slots := 0, locals := 0 } : Room) [.int a1, .int a2] D ca sz [] (oQi D (fun (r : Int32) (u : Unit) => (rg 0 11 r) ∧ (rl 1 r a2)) (fun (u : Unit) => [])) 0 0 := by
  refine oM (cc := cX9_drawOf) (maxL := 2) (ret := (some .int)) (by decide) rfl (Nat.le_of_ble_eq_true rfl) [(0, .int a1), (1, .int a2)] rfl ?_
  intro p e s m below meth c A H locs ls hx hb hr hml hts hown hlocks hin hK hP hD hA hS hl
  have hown : s.vm.findClass RX9 = some m.cls := hown
  refine lv_iload_n hx hb dX9_drawOf_0 rfl (lv_at hl 1 rfl) ?_
  refine lv_if_le (tgt := 13) hx hb dX9_drawOf_1 (by decide) (fun c => absurd c (no_le i_a2 (⟨by decide, by decide⟩ : rg 0 0 (0 : Int32)) (by decide))) (fun _ => ?_)
  refine lv_iload_n hx hb dX9_drawOf_4 rfl (lv_at hl 0 rfl) ?_
  refine lv_bipush (v := 8) hx hb dX9_drawOf_5 (by decide) ?_
  refine lv_iushr hx hb dX9_drawOf_7 rfl ?_
  refine lv_topi (fun x_6 ex_6 => ?_)
  have h_7 : rg 0 16777215 x_6 := by rw [ex_6]; exact ushr8 a1
  refine lv_iload_n hx hb dX9_drawOf_8 rfl (lv_at hl 1 rfl) ?_
  refine lv_irem hx hb dX9_drawOf_9 (nz_rg i_a2 (by decide)) ?_
  refine lv_topi (fun x_8 ex_8 => ?_)
  have h_9 : rg 0 11 x_8 := by rw [ex_8]; exact rg_rem h_7 i_a2 (by decide) (by decide) (by decide) (by decide)
  have o_10 : rl 1 x_8 a2 := by rw [ex_8]; exact rl_rem h_7 i_a2 (by decide) (by decide)
  refine lv_goto (tgt := 14) hx hb dX9_drawOf_10 (by decide) ?_
  exact oE_i hx hb hr rfl hlocks hP hD hS () [] rfl (by decide) ⟨h_9, (show rl 1 x_8 a2 from rlm (by have q0 := rle o_10; omega))⟩ (Nat.le_of_ble_eq_true rfl) (Nat.le_of_ble_eq_true rfl) dX9_drawOf_14
theorem dX9_drawDay_0 : decode cX9_drawDay 0 = .ok (.iload_n 2, 1) := by decide +kernel
theorem dX9_drawDay_1 : decode cX9_drawDay 1 = .ok (.istore_n 3, 1) := by decide +kernel
theorem dX9_drawDay_2 : decode cX9_drawDay 2 = .ok (.iconst 0, 1) := by decide +kernel
theorem dX9_drawDay_3 : decode cX9_drawDay 3 = .ok (.istore 4, 2) := by decide +kernel
theorem dX9_drawDay_5 : decode cX9_drawDay 5 = .ok (.iload 4, 2) := by decide +kernel
theorem dX9_drawDay_7 : decode cX9_drawDay 7 = .ok (.aload_n 1, 1) := by decide +kernel
theorem dX9_drawDay_8 : decode cX9_drawDay 8 = .ok (.getfield 70, 3) := by decide +kernel
theorem dX9_drawDay_11 : decode cX9_drawDay 11 = .ok (.if_icmp .ge 42, 3) := by decide +kernel
theorem dX9_drawDay_14 : decode cX9_drawDay 14 = .ok (.iload_n 3, 1) := by decide +kernel
theorem dX9_drawDay_15 : decode cX9_drawDay 15 = .ok (.invokestatic 116, 3) := by decide +kernel
theorem dX9_drawDay_18 : decode cX9_drawDay 18 = .ok (.istore_n 3, 1) := by decide +kernel
theorem dX9_drawDay_19 : decode cX9_drawDay 19 = .ok (.aload_n 0, 1) := by decide +kernel
theorem dX9_drawDay_20 : decode cX9_drawDay 20 = .ok (.aload_n 1, 1) := by decide +kernel
theorem dX9_drawDay_21 : decode cX9_drawDay 21 = .ok (.iload_n 3, 1) := by decide +kernel
theorem dX9_drawDay_22 : decode cX9_drawDay 22 = .ok (.bipush 12, 2) := by decide +kernel
theorem dX9_drawDay_24 : decode cX9_drawDay 24 = .ok (.invokestatic 119, 3) := by decide +kernel
theorem dX9_drawDay_27 : decode cX9_drawDay 27 = .ok (.aload_n 1, 1) := by decide +kernel
theorem dX9_drawDay_28 : decode cX9_drawDay 28 = .ok (.getfield 122, 3) := by decide +kernel
theorem dX9_drawDay_31 : decode cX9_drawDay 31 = .ok (.iload 4, 2) := by decide +kernel
theorem dX9_drawDay_33 : decode cX9_drawDay 33 = .ok (.iaload, 1) := by decide +kernel
theorem dX9_drawDay_34 : decode cX9_drawDay 34 = .ok (.if_icmp .ge 7, 3) := by decide +kernel
theorem dX9_drawDay_37 : decode cX9_drawDay 37 = .ok (.iconst 2, 1) := by decide +kernel
theorem dX9_drawDay_38 : decode cX9_drawDay 38 = .ok (.goto 4, 3) := by decide +kernel
theorem dX9_drawDay_41 : decode cX9_drawDay 41 = .ok (.iconst 3, 1) := by decide +kernel
theorem dX9_drawDay_42 : decode cX9_drawDay 42 = .ok (.iload 4, 2) := by decide +kernel
theorem dX9_drawDay_44 : decode cX9_drawDay 44 = .ok (.invokevirtual 125, 3) := by decide +kernel
theorem dX9_drawDay_47 : decode cX9_drawDay 47 = .ok (.iinc 4 1, 3) := by decide +kernel
theorem dX9_drawDay_50 : decode cX9_drawDay 50 = .ok (.goto (-45), 3) := by decide +kernel
theorem dX9_drawDay_53 : decode cX9_drawDay 53 = .ok (.aload_n 1, 1) := by decide +kernel
theorem dX9_drawDay_54 : decode cX9_drawDay 54 = .ok (.getfield 129, 3) := by decide +kernel
theorem dX9_drawDay_57 : decode cX9_drawDay 57 = .ok (.ifCond .le 34, 3) := by decide +kernel
theorem dX9_drawDay_60 : decode cX9_drawDay 60 = .ok (.iload_n 3, 1) := by decide +kernel
theorem dX9_drawDay_61 : decode cX9_drawDay 61 = .ok (.invokestatic 116, 3) := by decide +kernel
theorem dX9_drawDay_64 : decode cX9_drawDay 64 = .ok (.istore_n 3, 1) := by decide +kernel
theorem dX9_drawDay_65 : decode cX9_drawDay 65 = .ok (.iload_n 3, 1) := by decide +kernel
theorem dX9_drawDay_66 : decode cX9_drawDay 66 = .ok (.aload_n 1, 1) := by decide +kernel
theorem dX9_drawDay_67 : decode cX9_drawDay 67 = .ok (.getfield 129, 3) := by decide +kernel
theorem dX9_drawDay_70 : decode cX9_drawDay 70 = .ok (.invokestatic 119, 3) := by decide +kernel
theorem dX9_drawDay_73 : decode cX9_drawDay 73 = .ok (.istore 4, 2) := by decide +kernel
theorem dX9_drawDay_75 : decode cX9_drawDay 75 = .ok (.aload_n 0, 1) := by decide +kernel
theorem dX9_drawDay_76 : decode cX9_drawDay 76 = .ok (.iload 4, 2) := by decide +kernel
theorem dX9_drawDay_78 : decode cX9_drawDay 78 = .ok (.invokevirtual 80, 3) := by decide +kernel
theorem dX9_drawDay_81 : decode cX9_drawDay 81 = .ok (.ifCond .ne 10, 3) := by decide +kernel
theorem dX9_drawDay_84 : decode cX9_drawDay 84 = .ok (.aload_n 0, 1) := by decide +kernel
theorem dX9_drawDay_85 : decode cX9_drawDay 85 = .ok (.aload_n 1, 1) := by decide +kernel
theorem dX9_drawDay_86 : decode cX9_drawDay 86 = .ok (.iload 4, 2) := by decide +kernel
theorem dX9_drawDay_88 : decode cX9_drawDay 88 = .ok (.invokevirtual 94, 3) := by decide +kernel
theorem dX9_drawDay_91 : decode cX9_drawDay 91 = .ok (.iload_n 3, 1) := by decide +kernel
theorem dX9_drawDay_92 : decode cX9_drawDay 92 = .ok (.invokestatic 116, 3) := by decide +kernel
theorem dX9_drawDay_95 : decode cX9_drawDay 95 = .ok (.istore_n 3, 1) := by decide +kernel
theorem dX9_drawDay_96 : decode cX9_drawDay 96 = .ok (.iload_n 3, 1) := by decide +kernel
theorem dX9_drawDay_97 : decode cX9_drawDay 97 = .ok (.bipush 6, 2) := by decide +kernel
theorem dX9_drawDay_99 : decode cX9_drawDay 99 = .ok (.invokestatic 119, 3) := by decide +kernel
theorem dX9_drawDay_102 : decode cX9_drawDay 102 = .ok (.ifCond .ne 29, 3) := by decide +kernel
theorem dX9_drawDay_105 : decode cX9_drawDay 105 = .ok (.aload_n 1, 1) := by decide +kernel
theorem dX9_drawDay_106 : decode cX9_drawDay 106 = .ok (.getfield 70, 3) := by decide +kernel
theorem dX9_drawDay_109 : decode cX9_drawDay 109 = .ok (.ifCond .le 22, 3) := by decide +kernel
theorem dX9_drawDay_112 : decode cX9_drawDay 112 = .ok (.iload_n 3, 1) := by decide +kernel
theorem dX9_drawDay_113 : decode cX9_drawDay 113 = .ok (.invokestatic 116, 3) := by decide +kernel
theorem dX9_drawDay_116 : decode cX9_drawDay 116 = .ok (.istore_n 3, 1) := by decide +kernel
theorem dX9_drawDay_117 : decode cX9_drawDay 117 = .ok (.aload_n 0, 1) := by decide +kernel
theorem dX9_drawDay_118 : decode cX9_drawDay 118 = .ok (.getfield 9, 3) := by decide +kernel
theorem dX9_drawDay_121 : decode cX9_drawDay 121 = .ok (.iload_n 3, 1) := by decide +kernel
theorem dX9_drawDay_122 : decode cX9_drawDay 122 = .ok (.aload_n 1, 1) := by decide +kernel
theorem dX9_drawDay_123 : decode cX9_drawDay 123 = .ok (.getfield 70, 3) := by decide +kernel
theorem dX9_drawDay_126 : decode cX9_drawDay 126 = .ok (.invokestatic 119, 3) := by decide +kernel
theorem dX9_drawDay_129 : decode cX9_drawDay 129 = .ok (.iconst 0, 1) := by decide +kernel
theorem dX9_drawDay_130 : decode cX9_drawDay 130 = .ok (.iastore, 1) := by decide +kernel
theorem dX9_drawDay_131 : decode cX9_drawDay 131 = .ok (.aload_n 0, 1) := by decide +kernel
theorem dX9_drawDay_132 : decode cX9_drawDay 132 = .ok (.iconst 1, 1) := by decide +kernel
theorem dX9_drawDay_133 : decode cX9_drawDay 133 = .ok (.invokevirtual 98, 3) := by decide +kernel
theorem dX9_drawDay_136 : decode cX9_drawDay 136 = .ok (.iload_n 3, 1) := by decide +kernel
theorem dX9_drawDay_137 : decode cX9_drawDay 137 = .ok (.ireturn, 1) := by decide +kernel
set_option maxRecDepth 20000 in
theorem ggX9_drawDay_X9_afterDraw : GoodIn wsX9_drawDay wsX9_afterDraw := goodIn_r _ [8, 9] rfl (by decide +kernel)
set_option maxRecDepth 20000 in
theorem gX9_drawDay_X9_afterDraw : GoodIn wsX9_drawDay (va_wsS RX9 116 yX9_afterDraw wsX9_afterDraw) := goodIn_app (goodIn_of _ (by decide +kernel)) ggX9_drawDay_X9_afterDraw
set_option maxRecDepth 20000 in
theorem ggX9_drawDay_X9_drawOf : GoodIn wsX9_drawDay wsX9_drawOf := goodIn_r _ [12] rfl (by decide +kernel)
set_option maxRecDepth 20000 in
theorem gX9_drawDay_X9_drawOf : GoodIn wsX9_drawDay (va_wsS RX9 119 yX9_drawOf wsX9_drawOf) := goodIn_app (goodIn_of _ (by decide +kernel)) ggX9_drawDay_X9_drawOf
set_option maxRecDepth 20000 in
theorem ggX9_drawDay_X9_whyNotTry : GoodIn wsX9_drawDay wsX9_whyNotTry := goodIn_r _ [68, 19, 31, 37, 38, 39, 7, 40, 17, 18, 85, 86, 87, 88, 89, 90, 91, 92, 93, 94, 95] rfl (by decide +kernel)
set_option maxRecDepth 20000 in
theorem gX9_drawDay_X9_whyNotTry : GoodIn wsX9_drawDay (wsV RX9 80 RX9 yX9_whyNotTry wsX9_whyNotTry) := goodIn_app (goodIn_of _ (by decide +kernel)) ggX9_drawDay_X9_whyNotTry
set_option maxRecDepth 20000 in
theorem ggX9_drawDay_X9_dropLids : GoodIn wsX9_drawDay wsX9_dropLids := goodIn_r _ [23, 19, 24, 25, 26, 27, 28, 29, 17, 18, 30, 31, 1, 4, 32, 33, 34, 35, 36, 37, 38, 39, 7, 40, 41, 42, 43, 44, 45, 46, 47, 48, 49, 50, 51, 52, 53, 54, 55, 56, 57, 58, 59, 60, 85, 86, 87, 88, 89, 90, 91, 92, 93, 94, 95, 69, 70, 71, 72, 73, 74, 75, 76, 77, 78, 79, 80, 81, 82, 83, 84] rfl (by decide +kernel)
set_option maxRecDepth 20000 in
theorem gX9_drawDay_X9_dropLids : GoodIn wsX9_drawDay (wsV RX9 94 RX9 yX9_dropLids wsX9_dropLids) := goodIn_app (goodIn_of _ (by decide +kernel)) ggX9_drawDay_X9_dropLids
set_option maxRecDepth 20000 in
theorem ggX9_drawDay_X9_carryOut : GoodIn wsX9_drawDay wsX9_carryOut := goodIn_r _ [16, 17, 18, 4, 19, 20, 21, 22, 7, 23, 24, 25, 26, 27, 28, 29, 30, 31, 1, 32, 33, 34, 35, 36, 37, 38, 39, 40, 41, 42, 43, 44, 45, 46, 47, 48, 49, 50, 51, 52, 53, 54, 55, 56, 57, 58, 59, 60, 61, 62, 63, 64, 85, 86, 87, 88, 89, 90, 91, 92, 93, 94, 95, 69, 70, 71, 72, 73, 74, 75, 76, 77, 78, 79, 80, 81, 82, 83, 84] rfl (by decide +kernel)
set_option maxRecDepth 20000 in
theorem gX9_drawDay_X9_carryOut : GoodIn wsX9_drawDay (wsV RX9 125 RX9 yX9_carryOut wsX9_carryOut) := goodIn_app (goodIn_of _ (by decide +kernel)) ggX9_drawDay_X9_carryOut
set_option maxRecDepth 20000 in
theorem ggX9_drawDay_X9_letDaysGo : GoodIn wsX9_drawDay wsX9_letDaysGo := goodIn_r _ [64, 27, 32, 33, 34, 35, 18, 31, 85, 86, 87, 88, 89, 90, 91, 92, 93, 94, 95] rfl (by decide +kernel)
set_option maxRecDepth 20000 in
theorem gX9_drawDay_X9_letDaysGo : GoodIn wsX9_drawDay (wsV RX9 98 RX9 yX9_letDaysGo wsX9_letDaysGo) := goodIn_app (goodIn_of _ (by decide +kernel)) ggX9_drawDay_X9_letDaysGo
set_option maxHeartbeats 4000000 in
set_option maxRecDepth 100000 in
theorem s_X9_drawDay (l : Launch) (D : va_G) (ca : Nat → ClassId) (sz : Nat) (h0 : Nat) (r1 : Nat) (a2 : Int32) (h0_day : Int32) (h0_sits : Int32) (h0_holds : Int32) (h0_trials : Int32) (h0_triedToday : Int32) (h0_dents : Nat) (h0_drops : Nat) (h0_how : Nat) (h0_triedOn : Nat) (h0_dropped : Nat) (h0_heldOn : Nat) (r1_jurors : Int32) (r1_floors : Int32) (r1_cases : Int32) (r1_one : Int32) (r1_dent : Int32) (r1_seated : Int32) (r1_jurorName : Nat) (r1_floorName : Nat) (r1_caseName : Nat) (r1_pitch : Nat) (r1_length : Nat) (r1_hands : Nat) (r1_tune : Nat) (r1_dull : Nat) (r1_caseFloor : Nat) (r1_tuned : Nat) (F_h0_how : Nat → Int32) (F_r1_caseFloor : Nat → Int32) (F_r1_tuned : Nat → Int32) (F_r1_pitch : Nat → Int32) (F_r1_tune : Nat → Int32) (F_h0_dents : Nat → Int32) (F_h0_triedOn : Nat → Int32) (F_h0_dropped : Nat → Int32) (F_h0_heldOn : Nat → Int32) (F_h0_drops : Nat → Int32) (F_r1_hands : Nat → Int32) (i_h0_sits : rg 0 1023 h0_sits) (i_h0_triedToday : rg 0 1 h0_triedToday) (i_r1_jurors : rg 0 10 r1_jurors) (i_r1_floors : rg 0 4 r1_floors) (i_r1_cases : rg 0 5 r1_cases) (i_r1_seated : rg 0 1023 r1_seated) (s_r1_caseFloor_0 : sg 0 5 0 3 F_r1_caseFloor) : oMet l yX9_drawDay wsX9_drawDay ({ frames := 4, cells := 0, slots := 0, locals := 99 } : Room) [.ref h0, .ref r1, .int a2] D ca sz [(h0, .inr (9, [.int h0_day, .int h0_sits, .int h0_holds, .int h0_trials, .int h0_triedToday, .ref h0_dents, .ref h0_drops, .ref h0_how, .ref h0_triedOn, .ref h0_dropped, .ref h0_heldOn])), (r1, .inr (5, [.int r1_jurors, .int r1_floors, .int r1_cases, .int r1_one, .int r1_dent, .int r1_seated, .ref r1_jurorName, .ref r1_floorName, .ref r1_caseName, .ref r1_pitch, .ref r1_length, .ref r1_hands, .ref r1_tune, .ref r1_dull, .ref r1_caseFloor, .ref r1_tuned])), (aI ca h0_how 5 F_h0_how), (aI ca r1_caseFloor 5 F_r1_caseFloor), (aI ca r1_tuned 40 F_r1_tuned), (aI ca r1_pitch 10 F_r1_pitch), (aI ca r1_tune 4 F_r1_tune), (aI ca h0_dents 10 F_h0_dents), (aI ca h0_triedOn 5 F_h0_triedOn), (aI ca h0_dropped 5 F_h0_dropped), (aI ca h0_heldOn 5 F_h0_heldOn), (aI ca h0_drops 10 F_h0_drops), (aI ca r1_hands 10 F_r1_hands)] (oQi D (fun (r : Int32) (u : Int32 × Int32 × Int32 × (Nat → Int32) × (Nat → Int32) × (Nat → Int32) × (Nat → Int32) × (Nat → Int32) × (Nat → Int32)) => (rg (-2147483648) 400 u.1) ∧ (rg 0 1023 u.2.1)) (fun (u : Int32 × Int32 × Int32 × (Nat → Int32) × (Nat → Int32) × (Nat → Int32) × (Nat → Int32) × (Nat → Int32) × (Nat → Int32)) => [(h0, .inr (9, [.int u.1, .int u.2.1, .int 0, .int u.2.2.1, .int 0, .ref h0_dents, .ref h0_drops, .ref h0_how, .ref h0_triedOn, .ref h0_dropped, .ref h0_heldOn])), (r1, .inr (5, [.int r1_jurors, .int r1_floors, .int r1_cases, .int r1_one, .int r1_dent, .int r1_seated, .ref r1_jurorName, .ref r1_floorName, .ref r1_caseName, .ref r1_pitch, .ref r1_length, .ref r1_hands, .ref r1_tune, .ref r1_dull, .ref r1_caseFloor, .ref r1_tuned])), (aI ca h0_how 5 u.2.2.2.1), (aI ca r1_caseFloor 5 F_r1_caseFloor), (aI ca r1_tuned 40 F_r1_tuned), (aI ca r1_pitch 10 F_r1_pitch), (aI ca r1_tune 4 F_r1_tune), (aI ca h0_dents 10 u.2.2.2.2.1), (aI ca h0_triedOn 5 u.2.2.2.2.2.1), (aI ca h0_dropped 5 u.2.2.2.2.2.2.1), (aI ca h0_heldOn 5 u.2.2.2.2.2.2.2.1), (aI ca h0_drops 10 u.2.2.2.2.2.2.2.2), (aI ca r1_hands 10 F_r1_hands)])) 0 0 := by
  refine oM (cc := cX9_drawDay) (maxL := 5) (ret := (some .int)) (by decide) rfl (Nat.le_of_ble_eq_true rfl) [(0, .ref h0), (1, .ref r1), (2, .int a2)] rfl ?_
  intro p e s m below meth c A H locs ls hx hb hr hml hts hown hlocks hin hK hP hD hA hS hl
  have hown : s.vm.findClass RX9 = some m.cls := hown
  have k1 := hts (.fieldLink RX9 70 "LidCourt$Law" "jurors" "I") (by decide +kernel)
  have k2 : ∀ w ∈ wsX50, w ∈ wsX9_drawDay := fun _ h => List.mem_cons_of_mem _ (List.mem_append_left _ (List.mem_append_right _ h))
  have k3 := hts (.fieldLink RX9 9 "LidCourt$Standing" "dents" "[I") (by decide +kernel)
  have k4 : ∀ w ∈ wsX90, w ∈ wsX9_drawDay := fun _ h => List.mem_cons_of_mem _ (List.mem_append_right _ h)
  have k5 := hts (.fieldLink RX9 129 "LidCourt$Law" "cases" "I") (by decide +kernel)
  have k6 := hts (.fieldLink RX9 122 "LidCourt$Law" "hands" "[I") (by decide +kernel)
  have J131_577 : ∀ (y131_0 : Int32) (y131_1 : Int32) (y131_2 : Int32) (y131_3 : Int32) (y131_4 : Int32) (f131_5 : Nat → Int32) (f131_6 : Nat → Int32) (f131_7 : Nat → Int32) (f131_8 : Nat → Int32) (f131_9 : Nat → Int32) (f131_10 : Nat → Int32), rg 0 1023 y131_1 → rg 0 1 y131_4 → ∀ (H : Heap) (locs : List Loc) (ls : Array Slot), va_P D vwCl [(h0, .inr (9, [.int h0_day, .int y131_1, .int y131_2, .int y131_3, .int y131_4, .ref h0_dents, .ref h0_drops, .ref h0_how, .ref h0_triedOn, .ref h0_dropped, .ref h0_heldOn])), (r1, .inr (5, [.int r1_jurors, .int r1_floors, .int r1_cases, .int r1_one, .int r1_dent, .int r1_seated, .ref r1_jurorName, .ref r1_floorName, .ref r1_caseName, .ref r1_pitch, .ref r1_length, .ref r1_hands, .ref r1_tune, .ref r1_dull, .ref r1_caseFloor, .ref r1_tuned])), (aI ca h0_how 5 f131_5), (aI ca r1_caseFloor 5 F_r1_caseFloor), (aI ca r1_tuned 40 F_r1_tuned), (aI ca r1_pitch 10 F_r1_pitch), (aI ca r1_tune 4 F_r1_tune), (aI ca h0_dents 10 f131_6), (aI ca h0_triedOn 5 f131_7), (aI ca h0_dropped 5 f131_8), (aI ca h0_heldOn 5 f131_9), (aI ca h0_drops 10 f131_10), (aI ca r1_hands 10 F_r1_hands)] H → va_D A [(h0, .inr (9, [.int h0_day, .int y131_1, .int y131_2, .int y131_3, .int y131_4, .ref h0_dents, .ref h0_drops, .ref h0_how, .ref h0_triedOn, .ref h0_dropped, .ref h0_heldOn])), (r1, .inr (5, [.int r1_jurors, .int r1_floors, .int r1_cases, .int r1_one, .int r1_dent, .int r1_seated, .ref r1_jurorName, .ref r1_floorName, .ref r1_caseName, .ref r1_pitch, .ref r1_length, .ref r1_hands, .ref r1_tune, .ref r1_dull, .ref r1_caseFloor, .ref r1_tuned])), (aI ca h0_how 5 f131_5), (aI ca r1_caseFloor 5 F_r1_caseFloor), (aI ca r1_tuned 40 F_r1_tuned), (aI ca r1_pitch 10 F_r1_pitch), (aI ca r1_tune 4 F_r1_tune), (aI ca h0_dents 10 f131_6), (aI ca h0_triedOn 5 f131_7), (aI ca h0_dropped 5 f131_8), (aI ca h0_heldOn 5 f131_9), (aI ca h0_drops 10 f131_10), (aI ca r1_hands 10 F_r1_hands)] → va_S A s.heap H locs → lv_has ls 5 [(0, .ref h0), (3, .int y131_0)] → W p l e ({ frames := 4, cells := 0, slots := 0, locals := 99 } : Room) s m ([.ref h0, .ref r1, .int a2] : List Value).toArray below meth c H locs 0 0 (MQ below ((oQi D (fun (r : Int32) (u : Int32 × Int32 × Int32 × (Nat → Int32) × (Nat → Int32) × (Nat → Int32) × (Nat → Int32) × (Nat → Int32) × (Nat → Int32)) => (rg (-2147483648) 400 u.1) ∧ (rg 0 1023 u.2.1)) (fun (u : Int32 × Int32 × Int32 × (Nat → Int32) × (Nat → Int32) × (Nat → Int32) × (Nat → Int32) × (Nat → Int32) × (Nat → Int32)) => [(h0, .inr (9, [.int u.1, .int u.2.1, .int 0, .int u.2.2.1, .int 0, .ref h0_dents, .ref h0_drops, .ref h0_how, .ref h0_triedOn, .ref h0_dropped, .ref h0_heldOn])), (r1, .inr (5, [.int r1_jurors, .int r1_floors, .int r1_cases, .int r1_one, .int r1_dent, .int r1_seated, .ref r1_jurorName, .ref r1_floorName, .ref r1_caseName, .ref r1_pitch, .ref r1_length, .ref r1_hands, .ref r1_tune, .ref r1_dull, .ref r1_caseFloor, .ref r1_tuned])), (aI ca h0_how 5 u.2.2.2.1), (aI ca r1_caseFloor 5 F_r1_caseFloor), (aI ca r1_tuned 40 F_r1_tuned), (aI ca r1_pitch 10 F_r1_pitch), (aI ca r1_tune 4 F_r1_tune), (aI ca h0_dents 10 u.2.2.2.2.1), (aI ca h0_triedOn 5 u.2.2.2.2.2.1), (aI ca h0_dropped 5 u.2.2.2.2.2.2.1), (aI ca h0_heldOn 5 u.2.2.2.2.2.2.2.1), (aI ca h0_drops 10 u.2.2.2.2.2.2.2.2), (aI ca r1_hands 10 F_r1_hands)])) A) ([.ref h0, .ref r1, .int a2] : List Value).toArray s 0 0 A) (F0 m 131 ls []) := by
    intro y131_0 y131_1 y131_2 y131_3 y131_4 f131_5 f131_6 f131_7 f131_8 f131_9 f131_10 hy131_1 hy131_4 H locs ls hP hD hS hl
    refine lv_aload_n hx hb dX9_drawDay_131 rfl (lv_at hl 0 rfl) ?_
    refine lv_iconst (v := 1) hx hb dX9_drawDay_132 (by decide) ?_
    refine oC_v (Wc := [(h0, .inr (9, [.int h0_day, .int y131_1, .int y131_2, .int y131_3, .int y131_4, .ref h0_dents, .ref h0_drops, .ref h0_how, .ref h0_triedOn, .ref h0_dropped, .ref h0_heldOn]))]) (Wr := [(r1, .inr (5, [.int r1_jurors, .int r1_floors, .int r1_cases, .int r1_one, .int r1_dent, .int r1_seated, .ref r1_jurorName, .ref r1_floorName, .ref r1_caseName, .ref r1_pitch, .ref r1_length, .ref r1_hands, .ref r1_tune, .ref r1_dull, .ref r1_caseFloor, .ref r1_tuned])), (aI ca h0_how 5 f131_5), (aI ca r1_caseFloor 5 F_r1_caseFloor), (aI ca r1_tuned 40 F_r1_tuned), (aI ca r1_pitch 10 F_r1_pitch), (aI ca r1_tune 4 F_r1_tune), (aI ca h0_dents 10 f131_6), (aI ca h0_triedOn 5 f131_7), (aI ca h0_dropped 5 f131_8), (aI ca h0_heldOn 5 f131_9), (aI ca h0_drops 10 f131_10), (aI ca r1_hands 10 F_r1_hands)]) (va_runV (As := [.int 1]) (rest := []) ⟨hx, hb, hml, hown, hts⟩ (s_X9_letDaysGo l D ca H.size h0 1 h0_day y131_1 y131_2 y131_3 y131_4 h0_dents h0_drops h0_how h0_triedOn h0_dropped h0_heldOn hy131_1 hy131_4) (cwV 1 hts gX9_drawDay_X9_letDaysGo rfl rfl rfl (by decide +kernel) ⟨Nat.le_of_ble_eq_true rfl, Nat.le_of_ble_eq_true rfl⟩) (oPV (C := RX9) hK hP hD [0] rfl (by decide) 0 rfl (ci := 9) rfl rfl) rfl rfl hl.1 rfl (lv_room (Nat.le_of_ble_eq_true rfl)) dX9_drawDay_133 ⟨Nat.le_of_ble_eq_true rfl, Nat.le_of_ble_eq_true rfl⟩) hP hD hS hA [0] [1, 2, 3, 4, 5, 6, 7, 8, 9, 10, 11, 12] rfl rfl (by decide) (by decide) (fun u H locs w_579 hP hD hS => ?_)
    obtain ⟨u_580, rfl⟩ : ∃ z, z = u := ⟨_, rfl⟩
    have hP : va_P D vwCl [(r1, .inr (5, [.int r1_jurors, .int r1_floors, .int r1_cases, .int r1_one, .int r1_dent, .int r1_seated, .ref r1_jurorName, .ref r1_floorName, .ref r1_caseName, .ref r1_pitch, .ref r1_length, .ref r1_hands, .ref r1_tune, .ref r1_dull, .ref r1_caseFloor, .ref r1_tuned])), (aI ca h0_how 5 f131_5), (aI ca r1_caseFloor 5 F_r1_caseFloor), (aI ca r1_tuned 40 F_r1_tuned), (aI ca r1_pitch 10 F_r1_pitch), (aI ca r1_tune 4 F_r1_tune), (aI ca h0_dents 10 f131_6), (aI ca h0_triedOn 5 f131_7), (aI ca h0_dropped 5 f131_8), (aI ca h0_heldOn 5 f131_9), (aI ca h0_drops 10 f131_10), (aI ca r1_hands 10 F_r1_hands), (h0, .inr (9, [.int u_580, .int y131_1, .int 0, .int y131_3, .int 0, .ref h0_dents, .ref h0_drops, .ref h0_how, .ref h0_triedOn, .ref h0_dropped, .ref h0_heldOn]))] H := hP
    have hD : va_D A [(r1, .inr (5, [.int r1_jurors, .int r1_floors, .int r1_cases, .int r1_one, .int r1_dent, .int r1_seated, .ref r1_jurorName, .ref r1_floorName, .ref r1_caseName, .ref r1_pitch, .ref r1_length, .ref r1_hands, .ref r1_tune, .ref r1_dull, .ref r1_caseFloor, .ref r1_tuned])), (aI ca h0_how 5 f131_5), (aI ca r1_caseFloor 5 F_r1_caseFloor), (aI ca r1_tuned 40 F_r1_tuned), (aI ca r1_pitch 10 F_r1_pitch), (aI ca r1_tune 4 F_r1_tune), (aI ca h0_dents 10 f131_6), (aI ca h0_triedOn 5 f131_7), (aI ca h0_dropped 5 f131_8), (aI ca h0_heldOn 5 f131_9), (aI ca h0_drops 10 f131_10), (aI ca r1_hands 10 F_r1_hands), (h0, .inr (9, [.int u_580, .int y131_1, .int 0, .int y131_3, .int 0, .ref h0_dents, .ref h0_drops, .ref h0_how, .ref h0_triedOn, .ref h0_dropped, .ref h0_heldOn]))] := hD
    try dsimp only at w_579
    have h_581 := w_579
    refine lv_iload_n hx hb dX9_drawDay_136 rfl (lv_at hl 1 rfl) ?_
    exact oE_i hx hb hr rfl hlocks hP hD hS (u_580, y131_1, y131_3, f131_5, f131_6, f131_7, f131_8, f131_9, f131_10) [12, 0, 1, 2, 3, 4, 5, 6, 7, 8, 9, 10, 11] rfl (by decide) ⟨h_581, hy131_1⟩ (Nat.le_of_ble_eq_true rfl) (Nat.le_of_ble_eq_true rfl) dX9_drawDay_137
  have J91_582 : ∀ (y91_0 : Int32) (y91_1 : Int32) (y91_2 : Int32) (y91_3 : Int32) (y91_4 : Int32) (f91_5 : Nat → Int32) (f91_6 : Nat → Int32) (f91_7 : Nat → Int32) (f91_8 : Nat → Int32) (f91_9 : Nat → Int32) (f91_10 : Nat → Int32), rg 0 1023 y91_1 → rg 0 1 y91_4 → ∀ (H : Heap) (locs : List Loc) (ls : Array Slot), va_P D vwCl [(h0, .inr (9, [.int h0_day, .int y91_1, .int y91_2, .int y91_3, .int y91_4, .ref h0_dents, .ref h0_drops, .ref h0_how, .ref h0_triedOn, .ref h0_dropped, .ref h0_heldOn])), (r1, .inr (5, [.int r1_jurors, .int r1_floors, .int r1_cases, .int r1_one, .int r1_dent, .int r1_seated, .ref r1_jurorName, .ref r1_floorName, .ref r1_caseName, .ref r1_pitch, .ref r1_length, .ref r1_hands, .ref r1_tune, .ref r1_dull, .ref r1_caseFloor, .ref r1_tuned])), (aI ca h0_how 5 f91_5), (aI ca r1_caseFloor 5 F_r1_caseFloor), (aI ca r1_tuned 40 F_r1_tuned), (aI ca r1_pitch 10 F_r1_pitch), (aI ca r1_tune 4 F_r1_tune), (aI ca h0_dents 10 f91_6), (aI ca h0_triedOn 5 f91_7), (aI ca h0_dropped 5 f91_8), (aI ca h0_heldOn 5 f91_9), (aI ca h0_drops 10 f91_10), (aI ca r1_hands 10 F_r1_hands)] H → va_D A [(h0, .inr (9, [.int h0_day, .int y91_1, .int y91_2, .int y91_3, .int y91_4, .ref h0_dents, .ref h0_drops, .ref h0_how, .ref h0_triedOn, .ref h0_dropped, .ref h0_heldOn])), (r1, .inr (5, [.int r1_jurors, .int r1_floors, .int r1_cases, .int r1_one, .int r1_dent, .int r1_seated, .ref r1_jurorName, .ref r1_floorName, .ref r1_caseName, .ref r1_pitch, .ref r1_length, .ref r1_hands, .ref r1_tune, .ref r1_dull, .ref r1_caseFloor, .ref r1_tuned])), (aI ca h0_how 5 f91_5), (aI ca r1_caseFloor 5 F_r1_caseFloor), (aI ca r1_tuned 40 F_r1_tuned), (aI ca r1_pitch 10 F_r1_pitch), (aI ca r1_tune 4 F_r1_tune), (aI ca h0_dents 10 f91_6), (aI ca h0_triedOn 5 f91_7), (aI ca h0_dropped 5 f91_8), (aI ca h0_heldOn 5 f91_9), (aI ca h0_drops 10 f91_10), (aI ca r1_hands 10 F_r1_hands)] → va_S A s.heap H locs → lv_has ls 5 [(0, .ref h0), (1, .ref r1), (3, .int y91_0)] → W p l e ({ frames := 4, cells := 0, slots := 0, locals := 99 } : Room) s m ([.ref h0, .ref r1, .int a2] : List Value).toArray below meth c H locs 0 0 (MQ below ((oQi D (fun (r : Int32) (u : Int32 × Int32 × Int32 × (Nat → Int32) × (Nat → Int32) × (Nat → Int32) × (Nat → Int32) × (Nat → Int32) × (Nat → Int32)) => (rg (-2147483648) 400 u.1) ∧ (rg 0 1023 u.2.1)) (fun (u : Int32 × Int32 × Int32 × (Nat → Int32) × (Nat → Int32) × (Nat → Int32) × (Nat → Int32) × (Nat → Int32) × (Nat → Int32)) => [(h0, .inr (9, [.int u.1, .int u.2.1, .int 0, .int u.2.2.1, .int 0, .ref h0_dents, .ref h0_drops, .ref h0_how, .ref h0_triedOn, .ref h0_dropped, .ref h0_heldOn])), (r1, .inr (5, [.int r1_jurors, .int r1_floors, .int r1_cases, .int r1_one, .int r1_dent, .int r1_seated, .ref r1_jurorName, .ref r1_floorName, .ref r1_caseName, .ref r1_pitch, .ref r1_length, .ref r1_hands, .ref r1_tune, .ref r1_dull, .ref r1_caseFloor, .ref r1_tuned])), (aI ca h0_how 5 u.2.2.2.1), (aI ca r1_caseFloor 5 F_r1_caseFloor), (aI ca r1_tuned 40 F_r1_tuned), (aI ca r1_pitch 10 F_r1_pitch), (aI ca r1_tune 4 F_r1_tune), (aI ca h0_dents 10 u.2.2.2.2.1), (aI ca h0_triedOn 5 u.2.2.2.2.2.1), (aI ca h0_dropped 5 u.2.2.2.2.2.2.1), (aI ca h0_heldOn 5 u.2.2.2.2.2.2.2.1), (aI ca h0_drops 10 u.2.2.2.2.2.2.2.2), (aI ca r1_hands 10 F_r1_hands)])) A) ([.ref h0, .ref r1, .int a2] : List Value).toArray s 0 0 A) (F0 m 91 ls []) := by
    intro y91_0 y91_1 y91_2 y91_3 y91_4 f91_5 f91_6 f91_7 f91_8 f91_9 f91_10 hy91_1 hy91_4 H locs ls hP hD hS hl
    refine lv_iload_n hx hb dX9_drawDay_91 rfl (lv_at hl 2 rfl) ?_
    refine oC_i (Wc := []) (Wr := [(h0, .inr (9, [.int h0_day, .int y91_1, .int y91_2, .int y91_3, .int y91_4, .ref h0_dents, .ref h0_drops, .ref h0_how, .ref h0_triedOn, .ref h0_dropped, .ref h0_heldOn])), (r1, .inr (5, [.int r1_jurors, .int r1_floors, .int r1_cases, .int r1_one, .int r1_dent, .int r1_seated, .ref r1_jurorName, .ref r1_floorName, .ref r1_caseName, .ref r1_pitch, .ref r1_length, .ref r1_hands, .ref r1_tune, .ref r1_dull, .ref r1_caseFloor, .ref r1_tuned])), (aI ca h0_how 5 f91_5), (aI ca r1_caseFloor 5 F_r1_caseFloor), (aI ca r1_tuned 40 F_r1_tuned), (aI ca r1_pitch 10 F_r1_pitch), (aI ca r1_tune 4 F_r1_tune), (aI ca h0_dents 10 f91_6), (aI ca h0_triedOn 5 f91_7), (aI ca h0_dropped 5 f91_8), (aI ca h0_heldOn 5 f91_9), (aI ca h0_drops 10 f91_10), (aI ca r1_hands 10 F_r1_hands)]) (va_runS (As := [.int y91_0]) (rest := []) ⟨hx, hb, hml, hown, hts⟩ (s_X9_afterDraw l D ca H.size y91_0) (va_cwS 1 hts gX9_drawDay_X9_afterDraw rfl rfl rfl (by decide +kernel) ⟨Nat.le_of_ble_eq_true rfl, Nat.le_of_ble_eq_true rfl⟩) (oPS hK hP hD [] rfl (by decide)) rfl rfl hl.1 rfl (lv_room (Nat.le_of_ble_eq_true rfl)) dX9_drawDay_92 ⟨Nat.le_of_ble_eq_true rfl, Nat.le_of_ble_eq_true rfl⟩) hP hD hS hA [] [0, 1, 2, 3, 4, 5, 6, 7, 8, 9, 10, 11, 12] rfl rfl (by decide) (by decide) (fun r_583 u H locs w_584 hP hD hS => ?_)
    obtain ⟨⟩ := u
    have hP : va_P D vwCl [(h0, .inr (9, [.int h0_day, .int y91_1, .int y91_2, .int y91_3, .int y91_4, .ref h0_dents, .ref h0_drops, .ref h0_how, .ref h0_triedOn, .ref h0_dropped, .ref h0_heldOn])), (r1, .inr (5, [.int r1_jurors, .int r1_floors, .int r1_cases, .int r1_one, .int r1_dent, .int r1_seated, .ref r1_jurorName, .ref r1_floorName, .ref r1_caseName, .ref r1_pitch, .ref r1_length, .ref r1_hands, .ref r1_tune, .ref r1_dull, .ref r1_caseFloor, .ref r1_tuned])), (aI ca h0_how 5 f91_5), (aI ca r1_caseFloor 5 F_r1_caseFloor), (aI ca r1_tuned 40 F_r1_tuned), (aI ca r1_pitch 10 F_r1_pitch), (aI ca r1_tune 4 F_r1_tune), (aI ca h0_dents 10 f91_6), (aI ca h0_triedOn 5 f91_7), (aI ca h0_dropped 5 f91_8), (aI ca h0_heldOn 5 f91_9), (aI ca h0_drops 10 f91_10), (aI ca r1_hands 10 F_r1_hands)] H := hP
    have hD : va_D A [(h0, .inr (9, [.int h0_day, .int y91_1, .int y91_2, .int y91_3, .int y91_4, .ref h0_dents, .ref h0_drops, .ref h0_how, .ref h0_triedOn, .ref h0_dropped, .ref h0_heldOn])), (r1, .inr (5, [.int r1_jurors, .int r1_floors, .int r1_cases, .int r1_one, .int r1_dent, .int r1_seated, .ref r1_jurorName, .ref r1_floorName, .ref r1_caseName, .ref r1_pitch, .ref r1_length, .ref r1_hands, .ref r1_tune, .ref r1_dull, .ref r1_caseFloor, .ref r1_tuned])), (aI ca h0_how 5 f91_5), (aI ca r1_caseFloor 5 F_r1_caseFloor), (aI ca r1_tuned 40 F_r1_tuned), (aI ca r1_pitch 10 F_r1_pitch), (aI ca r1_tune 4 F_r1_tune), (aI ca h0_dents 10 f91_6), (aI ca h0_triedOn 5 f91_7), (aI ca h0_dropped 5 f91_8), (aI ca h0_heldOn 5 f91_9), (aI ca h0_drops 10 f91_10), (aI ca r1_hands 10 F_r1_hands)] := hD
    try dsimp only at w_584
    refine lv_istore_n (lv' := [(3, .int r_583), (0, .ref h0), (1, .ref r1)]) hx hb dX9_drawDay_95 rfl hl (by decide) rfl (fun ls hl => ?_)
    refine lv_iload_n hx hb dX9_drawDay_96 rfl (lv_at hl 0 rfl) ?_
    refine lv_bipush (v := 6) hx hb dX9_drawDay_97 (by decide) ?_
    refine oC_i (Wc := []) (Wr := [(h0, .inr (9, [.int h0_day, .int y91_1, .int y91_2, .int y91_3, .int y91_4, .ref h0_dents, .ref h0_drops, .ref h0_how, .ref h0_triedOn, .ref h0_dropped, .ref h0_heldOn])), (r1, .inr (5, [.int r1_jurors, .int r1_floors, .int r1_cases, .int r1_one, .int r1_dent, .int r1_seated, .ref r1_jurorName, .ref r1_floorName, .ref r1_caseName, .ref r1_pitch, .ref r1_length, .ref r1_hands, .ref r1_tune, .ref r1_dull, .ref r1_caseFloor, .ref r1_tuned])), (aI ca h0_how 5 f91_5), (aI ca r1_caseFloor 5 F_r1_caseFloor), (aI ca r1_tuned 40 F_r1_tuned), (aI ca r1_pitch 10 F_r1_pitch), (aI ca r1_tune 4 F_r1_tune), (aI ca h0_dents 10 f91_6), (aI ca h0_triedOn 5 f91_7), (aI ca h0_dropped 5 f91_8), (aI ca h0_heldOn 5 f91_9), (aI ca h0_drops 10 f91_10), (aI ca r1_hands 10 F_r1_hands)]) (va_runS (As := [.int r_583, .int 6]) (rest := []) ⟨hx, hb, hml, hown, hts⟩ (s_X9_drawOf l D ca H.size r_583 6 (⟨by decide, by decide⟩ : rg 1 12 (6 : Int32))) (va_cwS 2 hts gX9_drawDay_X9_drawOf rfl rfl rfl (by decide +kernel) ⟨Nat.le_of_ble_eq_true rfl, Nat.le_of_ble_eq_true rfl⟩) (oPS hK hP hD [] rfl (by decide)) rfl rfl hl.1 rfl (lv_room (Nat.le_of_ble_eq_true rfl)) dX9_drawDay_99 ⟨Nat.le_of_ble_eq_true rfl, Nat.le_of_ble_eq_true rfl⟩) hP hD hS hA [] [0, 1, 2, 3, 4, 5, 6, 7, 8, 9, 10, 11, 12] rfl rfl (by decide) (by decide) (fun r_585 u H locs w_586 hP hD hS => ?_)
    obtain ⟨⟩ := u
    have hP : va_P D vwCl [(h0, .inr (9, [.int h0_day, .int y91_1, .int y91_2, .int y91_3, .int y91_4, .ref h0_dents, .ref h0_drops, .ref h0_how, .ref h0_triedOn, .ref h0_dropped, .ref h0_heldOn])), (r1, .inr (5, [.int r1_jurors, .int r1_floors, .int r1_cases, .int r1_one, .int r1_dent, .int r1_seated, .ref r1_jurorName, .ref r1_floorName, .ref r1_caseName, .ref r1_pitch, .ref r1_length, .ref r1_hands, .ref r1_tune, .ref r1_dull, .ref r1_caseFloor, .ref r1_tuned])), (aI ca h0_how 5 f91_5), (aI ca r1_caseFloor 5 F_r1_caseFloor), (aI ca r1_tuned 40 F_r1_tuned), (aI ca r1_pitch 10 F_r1_pitch), (aI ca r1_tune 4 F_r1_tune), (aI ca h0_dents 10 f91_6), (aI ca h0_triedOn 5 f91_7), (aI ca h0_dropped 5 f91_8), (aI ca h0_heldOn 5 f91_9), (aI ca h0_drops 10 f91_10), (aI ca r1_hands 10 F_r1_hands)] H := hP
    have hD : va_D A [(h0, .inr (9, [.int h0_day, .int y91_1, .int y91_2, .int y91_3, .int y91_4, .ref h0_dents, .ref h0_drops, .ref h0_how, .ref h0_triedOn, .ref h0_dropped, .ref h0_heldOn])), (r1, .inr (5, [.int r1_jurors, .int r1_floors, .int r1_cases, .int r1_one, .int r1_dent, .int r1_seated, .ref r1_jurorName, .ref r1_floorName, .ref r1_caseName, .ref r1_pitch, .ref r1_length, .ref r1_hands, .ref r1_tune, .ref r1_dull, .ref r1_caseFloor, .ref r1_tuned])), (aI ca h0_how 5 f91_5), (aI ca r1_caseFloor 5 F_r1_caseFloor), (aI ca r1_tuned 40 F_r1_tuned), (aI ca r1_pitch 10 F_r1_pitch), (aI ca r1_tune 4 F_r1_tune), (aI ca h0_dents 10 f91_6), (aI ca h0_triedOn 5 f91_7), (aI ca h0_dropped 5 f91_8), (aI ca h0_heldOn 5 f91_9), (aI ca h0_drops 10 f91_10), (aI ca r1_hands 10 F_r1_hands)] := hD
    try dsimp only at w_586
    obtain ⟨h_587, h_588⟩ := w_586
    have h_589 : rg 0 5 r_585 := rl_x h_588 h_587 (⟨by decide, by decide⟩ : rg 6 6 (6 : Int32)) (by decide) (by decide)
    refine lv_if_ne (tgt := 131) hx hb dX9_drawDay_102 (by decide) (fun c_590 => ?_) (fun c_590 => ?_)
    · skip
      have h_591 : rg 1 5 r_585 := cl_nlo c_590 h_589 (show (0 : Int32).toInt = 0 by decide) (by decide) (by decide)
      exact J131_577 r_583 y91_1 y91_2 y91_3 y91_4 f91_5 f91_6 f91_7 f91_8 f91_9 f91_10 hy91_1 hy91_4 H locs ls (oPsub hP [0, 1, 2, 3, 4, 5, 6, 7, 8, 9, 10, 11, 12] rfl) (hD.sub [0, 1, 2, 3, 4, 5, 6, 7, 8, 9, 10, 11, 12] (by decide) rfl) hS (lv_sub hl [1, 0] rfl)
    · skip
      have o_592 : rl 0 r_585 0 := rl_eq c_590
      have h_593 : rg 0 0 r_585 := rl_x o_592 h_589 (⟨by decide, by decide⟩ : rg 0 0 (0 : Int32)) (by decide) (by decide)
      have o_594 : rl 0 0 r_585 := rl_eq c_590.symm
      refine lv_aload_n hx hb dX9_drawDay_105 rfl (lv_at hl 2 rfl) ?_
      refine va_get (D := D) (ci := 5) (v := .int r1_jurors) (C := RX5) (T := TX5) (N := 16) hx hb hts k2 hown hK.1 hP 1 rfl rfl 0 (by decide) k1 (fun _ h9 => h9) rfl dX9_drawDay_106 ?_
      refine lv_if_le (tgt := 131) hx hb dX9_drawDay_109 (by decide) (fun c_595 => ?_) (fun c_595 => ?_)
      · skip
        have o_596 : rl 0 r1_jurors 0 := rl_le c_595
        have h_597 : rg 0 0 r1_jurors := rl_x o_596 i_r1_jurors (⟨by decide, by decide⟩ : rg 0 0 (0 : Int32)) (by decide) (by decide)
        exact J131_577 r_583 y91_1 y91_2 y91_3 y91_4 f91_5 f91_6 f91_7 f91_8 f91_9 f91_10 hy91_1 hy91_4 H locs ls (oPsub hP [0, 1, 2, 3, 4, 5, 6, 7, 8, 9, 10, 11, 12] rfl) (hD.sub [0, 1, 2, 3, 4, 5, 6, 7, 8, 9, 10, 11, 12] (by decide) rfl) hS (lv_sub hl [1, 0] rfl)
      · skip
        have o_598 : rl 1 0 r1_jurors := rl_nle c_595
        have h_599 : rg 1 10 r1_jurors := rl_y o_598 (⟨by decide, by decide⟩ : rg 0 0 (0 : Int32)) i_r1_jurors (by decide) (by decide)
        refine lv_iload_n hx hb dX9_drawDay_112 rfl (lv_at hl 0 rfl) ?_
        refine oC_i (Wc := []) (Wr := [(h0, .inr (9, [.int h0_day, .int y91_1, .int y91_2, .int y91_3, .int y91_4, .ref h0_dents, .ref h0_drops, .ref h0_how, .ref h0_triedOn, .ref h0_dropped, .ref h0_heldOn])), (r1, .inr (5, [.int r1_jurors, .int r1_floors, .int r1_cases, .int r1_one, .int r1_dent, .int r1_seated, .ref r1_jurorName, .ref r1_floorName, .ref r1_caseName, .ref r1_pitch, .ref r1_length, .ref r1_hands, .ref r1_tune, .ref r1_dull, .ref r1_caseFloor, .ref r1_tuned])), (aI ca h0_how 5 f91_5), (aI ca r1_caseFloor 5 F_r1_caseFloor), (aI ca r1_tuned 40 F_r1_tuned), (aI ca r1_pitch 10 F_r1_pitch), (aI ca r1_tune 4 F_r1_tune), (aI ca h0_dents 10 f91_6), (aI ca h0_triedOn 5 f91_7), (aI ca h0_dropped 5 f91_8), (aI ca h0_heldOn 5 f91_9), (aI ca h0_drops 10 f91_10), (aI ca r1_hands 10 F_r1_hands)]) (va_runS (As := [.int r_583]) (rest := []) ⟨hx, hb, hml, hown, hts⟩ (s_X9_afterDraw l D ca H.size r_583) (va_cwS 1 hts gX9_drawDay_X9_afterDraw rfl rfl rfl (by decide +kernel) ⟨Nat.le_of_ble_eq_true rfl, Nat.le_of_ble_eq_true rfl⟩) (oPS hK hP hD [] rfl (by decide)) rfl rfl hl.1 rfl (lv_room (Nat.le_of_ble_eq_true rfl)) dX9_drawDay_113 ⟨Nat.le_of_ble_eq_true rfl, Nat.le_of_ble_eq_true rfl⟩) hP hD hS hA [] [0, 1, 2, 3, 4, 5, 6, 7, 8, 9, 10, 11, 12] rfl rfl (by decide) (by decide) (fun r_600 u H locs w_601 hP hD hS => ?_)
        obtain ⟨⟩ := u
        have hP : va_P D vwCl [(h0, .inr (9, [.int h0_day, .int y91_1, .int y91_2, .int y91_3, .int y91_4, .ref h0_dents, .ref h0_drops, .ref h0_how, .ref h0_triedOn, .ref h0_dropped, .ref h0_heldOn])), (r1, .inr (5, [.int r1_jurors, .int r1_floors, .int r1_cases, .int r1_one, .int r1_dent, .int r1_seated, .ref r1_jurorName, .ref r1_floorName, .ref r1_caseName, .ref r1_pitch, .ref r1_length, .ref r1_hands, .ref r1_tune, .ref r1_dull, .ref r1_caseFloor, .ref r1_tuned])), (aI ca h0_how 5 f91_5), (aI ca r1_caseFloor 5 F_r1_caseFloor), (aI ca r1_tuned 40 F_r1_tuned), (aI ca r1_pitch 10 F_r1_pitch), (aI ca r1_tune 4 F_r1_tune), (aI ca h0_dents 10 f91_6), (aI ca h0_triedOn 5 f91_7), (aI ca h0_dropped 5 f91_8), (aI ca h0_heldOn 5 f91_9), (aI ca h0_drops 10 f91_10), (aI ca r1_hands 10 F_r1_hands)] H := hP
        have hD : va_D A [(h0, .inr (9, [.int h0_day, .int y91_1, .int y91_2, .int y91_3, .int y91_4, .ref h0_dents, .ref h0_drops, .ref h0_how, .ref h0_triedOn, .ref h0_dropped, .ref h0_heldOn])), (r1, .inr (5, [.int r1_jurors, .int r1_floors, .int r1_cases, .int r1_one, .int r1_dent, .int r1_seated, .ref r1_jurorName, .ref r1_floorName, .ref r1_caseName, .ref r1_pitch, .ref r1_length, .ref r1_hands, .ref r1_tune, .ref r1_dull, .ref r1_caseFloor, .ref r1_tuned])), (aI ca h0_how 5 f91_5), (aI ca r1_caseFloor 5 F_r1_caseFloor), (aI ca r1_tuned 40 F_r1_tuned), (aI ca r1_pitch 10 F_r1_pitch), (aI ca r1_tune 4 F_r1_tune), (aI ca h0_dents 10 f91_6), (aI ca h0_triedOn 5 f91_7), (aI ca h0_dropped 5 f91_8), (aI ca h0_heldOn 5 f91_9), (aI ca h0_drops 10 f91_10), (aI ca r1_hands 10 F_r1_hands)] := hD
        try dsimp only at w_601
        refine lv_istore_n (lv' := [(3, .int r_600), (0, .ref h0), (1, .ref r1)]) hx hb dX9_drawDay_116 rfl hl (by decide) rfl (fun ls hl => ?_)
        refine lv_aload_n hx hb dX9_drawDay_117 rfl (lv_at hl 1 rfl) ?_
        refine va_get (D := D) (ci := 9) (v := .ref h0_dents) (C := RX9) (T := TX9) (N := 11) hx hb hts k4 hown hK.1 hP 0 rfl rfl 5 (by decide) k3 (fun _ h9 => h9) rfl dX9_drawDay_118 ?_
        refine lv_iload_n hx hb dX9_drawDay_121 rfl (lv_at hl 0 rfl) ?_
        refine lv_aload_n hx hb dX9_drawDay_122 rfl (lv_at hl 2 rfl) ?_
        refine va_get (D := D) (ci := 5) (v := .int r1_jurors) (C := RX5) (T := TX5) (N := 16) hx hb hts k2 hown hK.1 hP 1 rfl rfl 0 (by decide) k1 (fun _ h9 => h9) rfl dX9_drawDay_123 ?_
        refine oC_i (Wc := []) (Wr := [(h0, .inr (9, [.int h0_day, .int y91_1, .int y91_2, .int y91_3, .int y91_4, .ref h0_dents, .ref h0_drops, .ref h0_how, .ref h0_triedOn, .ref h0_dropped, .ref h0_heldOn])), (r1, .inr (5, [.int r1_jurors, .int r1_floors, .int r1_cases, .int r1_one, .int r1_dent, .int r1_seated, .ref r1_jurorName, .ref r1_floorName, .ref r1_caseName, .ref r1_pitch, .ref r1_length, .ref r1_hands, .ref r1_tune, .ref r1_dull, .ref r1_caseFloor, .ref r1_tuned])), (aI ca h0_how 5 f91_5), (aI ca r1_caseFloor 5 F_r1_caseFloor), (aI ca r1_tuned 40 F_r1_tuned), (aI ca r1_pitch 10 F_r1_pitch), (aI ca r1_tune 4 F_r1_tune), (aI ca h0_dents 10 f91_6), (aI ca h0_triedOn 5 f91_7), (aI ca h0_dropped 5 f91_8), (aI ca h0_heldOn 5 f91_9), (aI ca h0_drops 10 f91_10), (aI ca r1_hands 10 F_r1_hands)]) (va_runS (As := [.int r_600, .int r1_jurors]) (rest := [.ref h0_dents]) ⟨hx, hb, hml, hown, hts⟩ (s_X9_drawOf l D ca H.size r_600 r1_jurors (rgw (lo := 1) (hi := 12) h_599 (by decide) (by decide))) (va_cwS 2 hts gX9_drawDay_X9_drawOf rfl rfl rfl (by decide +kernel) ⟨Nat.le_of_ble_eq_true rfl, Nat.le_of_ble_eq_true rfl⟩) (oPS hK hP hD [] rfl (by decide)) rfl rfl hl.1 rfl (lv_room (Nat.le_of_ble_eq_true rfl)) dX9_drawDay_126 ⟨Nat.le_of_ble_eq_true rfl, Nat.le_of_ble_eq_true rfl⟩) hP hD hS hA [] [0, 1, 2, 3, 4, 5, 6, 7, 8, 9, 10, 11, 12] rfl rfl (by decide) (by decide) (fun r_602 u H locs w_603 hP hD hS => ?_)
        obtain ⟨⟩ := u
        have hP : va_P D vwCl [(h0, .inr (9, [.int h0_day, .int y91_1, .int y91_2, .int y91_3, .int y91_4, .ref h0_dents, .ref h0_drops, .ref h0_how, .ref h0_triedOn, .ref h0_dropped, .ref h0_heldOn])), (r1, .inr (5, [.int r1_jurors, .int r1_floors, .int r1_cases, .int r1_one, .int r1_dent, .int r1_seated, .ref r1_jurorName, .ref r1_floorName, .ref r1_caseName, .ref r1_pitch, .ref r1_length, .ref r1_hands, .ref r1_tune, .ref r1_dull, .ref r1_caseFloor, .ref r1_tuned])), (aI ca h0_how 5 f91_5), (aI ca r1_caseFloor 5 F_r1_caseFloor), (aI ca r1_tuned 40 F_r1_tuned), (aI ca r1_pitch 10 F_r1_pitch), (aI ca r1_tune 4 F_r1_tune), (aI ca h0_dents 10 f91_6), (aI ca h0_triedOn 5 f91_7), (aI ca h0_dropped 5 f91_8), (aI ca h0_heldOn 5 f91_9), (aI ca h0_drops 10 f91_10), (aI ca r1_hands 10 F_r1_hands)] H := hP
        have hD : va_D A [(h0, .inr (9, [.int h0_day, .int y91_1, .int y91_2, .int y91_3, .int y91_4, .ref h0_dents, .ref h0_drops, .ref h0_how, .ref h0_triedOn, .ref h0_dropped, .ref h0_heldOn])), (r1, .inr (5, [.int r1_jurors, .int r1_floors, .int r1_cases, .int r1_one, .int r1_dent, .int r1_seated, .ref r1_jurorName, .ref r1_floorName, .ref r1_caseName, .ref r1_pitch, .ref r1_length, .ref r1_hands, .ref r1_tune, .ref r1_dull, .ref r1_caseFloor, .ref r1_tuned])), (aI ca h0_how 5 f91_5), (aI ca r1_caseFloor 5 F_r1_caseFloor), (aI ca r1_tuned 40 F_r1_tuned), (aI ca r1_pitch 10 F_r1_pitch), (aI ca r1_tune 4 F_r1_tune), (aI ca h0_dents 10 f91_6), (aI ca h0_triedOn 5 f91_7), (aI ca h0_dropped 5 f91_8), (aI ca h0_heldOn 5 f91_9), (aI ca h0_drops 10 f91_10), (aI ca r1_hands 10 F_r1_hands)] := hD
        try dsimp only at w_603
        obtain ⟨h_604, h_605⟩ := w_603
        have h_606 : rg 0 9 r_602 := rl_x h_605 h_604 h_599 (by decide) (by decide)
        refine lv_iconst (v := 0) hx hb dX9_drawDay_129 (by decide) ?_
        refine va_iast hx hb hK.1 hP hD hS 7 0 rfl rfl (rg_in h_606 (by decide) (by decide)) dX9_drawDay_130 (fun H locs hP hD hS => ?_)
        obtain ⟨g_607, eg_607⟩ : ∃ y : Nat → Int32, y = upd f91_6 (r_602 : Int32).toNatClampNeg (0 : Int32) := ⟨_, rfl⟩
        rw [← eg_607] at hP hD
        have hP : va_P D vwCl [(h0, .inr (9, [.int h0_day, .int y91_1, .int y91_2, .int y91_3, .int y91_4, .ref h0_dents, .ref h0_drops, .ref h0_how, .ref h0_triedOn, .ref h0_dropped, .ref h0_heldOn])), (r1, .inr (5, [.int r1_jurors, .int r1_floors, .int r1_cases, .int r1_one, .int r1_dent, .int r1_seated, .ref r1_jurorName, .ref r1_floorName, .ref r1_caseName, .ref r1_pitch, .ref r1_length, .ref r1_hands, .ref r1_tune, .ref r1_dull, .ref r1_caseFloor, .ref r1_tuned])), (aI ca h0_how 5 f91_5), (aI ca r1_caseFloor 5 F_r1_caseFloor), (aI ca r1_tuned 40 F_r1_tuned), (aI ca r1_pitch 10 F_r1_pitch), (aI ca r1_tune 4 F_r1_tune), (aI ca h0_dents 10 g_607), (aI ca h0_triedOn 5 f91_7), (aI ca h0_dropped 5 f91_8), (aI ca h0_heldOn 5 f91_9), (aI ca h0_drops 10 f91_10), (aI ca r1_hands 10 F_r1_hands)] H := hP
        have hD : va_D A [(h0, .inr (9, [.int h0_day, .int y91_1, .int y91_2, .int y91_3, .int y91_4, .ref h0_dents, .ref h0_drops, .ref h0_how, .ref h0_triedOn, .ref h0_dropped, .ref h0_heldOn])), (r1, .inr (5, [.int r1_jurors, .int r1_floors, .int r1_cases, .int r1_one, .int r1_dent, .int r1_seated, .ref r1_jurorName, .ref r1_floorName, .ref r1_caseName, .ref r1_pitch, .ref r1_length, .ref r1_hands, .ref r1_tune, .ref r1_dull, .ref r1_caseFloor, .ref r1_tuned])), (aI ca h0_how 5 f91_5), (aI ca r1_caseFloor 5 F_r1_caseFloor), (aI ca r1_tuned 40 F_r1_tuned), (aI ca r1_pitch 10 F_r1_pitch), (aI ca r1_tune 4 F_r1_tune), (aI ca h0_dents 10 g_607), (aI ca h0_triedOn 5 f91_7), (aI ca h0_dropped 5 f91_8), (aI ca h0_heldOn 5 f91_9), (aI ca h0_drops 10 f91_10), (aI ca r1_hands 10 F_r1_hands)] := hD
        exact J131_577 r_600 y91_1 y91_2 y91_3 y91_4 f91_5 g_607 f91_7 f91_8 f91_9 f91_10 hy91_1 hy91_4 H locs ls (oPsub hP [0, 1, 2, 3, 4, 5, 6, 7, 8, 9, 10, 11, 12] rfl) (hD.sub [0, 1, 2, 3, 4, 5, 6, 7, 8, 9, 10, 11, 12] (by decide) rfl) hS (lv_sub hl [1, 0] rfl)
  have J5_608 : ∀ (n : Nat) (y5_0 : Int32) (y5_1 : Int32) (y5_2 : Int32) (y5_3 : Int32) (f5_4 : Nat → Int32), True → rg 0 10 y5_1 → rg 0 1023 y5_2 → 10 < y5_1.toInt + (n : Int) → ∀ (H : Heap) (locs : List Loc) (ls : Array Slot), va_P D vwCl [(h0, .inr (9, [.int h0_day, .int y5_2, .int y5_3, .int h0_trials, .int h0_triedToday, .ref h0_dents, .ref h0_drops, .ref h0_how, .ref h0_triedOn, .ref h0_dropped, .ref h0_heldOn])), (r1, .inr (5, [.int r1_jurors, .int r1_floors, .int r1_cases, .int r1_one, .int r1_dent, .int r1_seated, .ref r1_jurorName, .ref r1_floorName, .ref r1_caseName, .ref r1_pitch, .ref r1_length, .ref r1_hands, .ref r1_tune, .ref r1_dull, .ref r1_caseFloor, .ref r1_tuned])), (aI ca h0_how 5 F_h0_how), (aI ca r1_caseFloor 5 F_r1_caseFloor), (aI ca r1_tuned 40 F_r1_tuned), (aI ca r1_pitch 10 F_r1_pitch), (aI ca r1_tune 4 F_r1_tune), (aI ca h0_dents 10 f5_4), (aI ca h0_triedOn 5 F_h0_triedOn), (aI ca h0_dropped 5 F_h0_dropped), (aI ca h0_heldOn 5 F_h0_heldOn), (aI ca h0_drops 10 F_h0_drops), (aI ca r1_hands 10 F_r1_hands)] H → va_D A [(h0, .inr (9, [.int h0_day, .int y5_2, .int y5_3, .int h0_trials, .int h0_triedToday, .ref h0_dents, .ref h0_drops, .ref h0_how, .ref h0_triedOn, .ref h0_dropped, .ref h0_heldOn])), (r1, .inr (5, [.int r1_jurors, .int r1_floors, .int r1_cases, .int r1_one, .int r1_dent, .int r1_seated, .ref r1_jurorName, .ref r1_floorName, .ref r1_caseName, .ref r1_pitch, .ref r1_length, .ref r1_hands, .ref r1_tune, .ref r1_dull, .ref r1_caseFloor, .ref r1_tuned])), (aI ca h0_how 5 F_h0_how), (aI ca r1_caseFloor 5 F_r1_caseFloor), (aI ca r1_tuned 40 F_r1_tuned), (aI ca r1_pitch 10 F_r1_pitch), (aI ca r1_tune 4 F_r1_tune), (aI ca h0_dents 10 f5_4), (aI ca h0_triedOn 5 F_h0_triedOn), (aI ca h0_dropped 5 F_h0_dropped), (aI ca h0_heldOn 5 F_h0_heldOn), (aI ca h0_drops 10 F_h0_drops), (aI ca r1_hands 10 F_r1_hands)] → va_S A s.heap H locs → lv_has ls 5 [(0, .ref h0), (1, .ref r1), (3, .int y5_0), (4, .int y5_1)] → W p l e ({ frames := 4, cells := 0, slots := 0, locals := 99 } : Room) s m ([.ref h0, .ref r1, .int a2] : List Value).toArray below meth c H locs 0 0 (MQ below ((oQi D (fun (r : Int32) (u : Int32 × Int32 × Int32 × (Nat → Int32) × (Nat → Int32) × (Nat → Int32) × (Nat → Int32) × (Nat → Int32) × (Nat → Int32)) => (rg (-2147483648) 400 u.1) ∧ (rg 0 1023 u.2.1)) (fun (u : Int32 × Int32 × Int32 × (Nat → Int32) × (Nat → Int32) × (Nat → Int32) × (Nat → Int32) × (Nat → Int32) × (Nat → Int32)) => [(h0, .inr (9, [.int u.1, .int u.2.1, .int 0, .int u.2.2.1, .int 0, .ref h0_dents, .ref h0_drops, .ref h0_how, .ref h0_triedOn, .ref h0_dropped, .ref h0_heldOn])), (r1, .inr (5, [.int r1_jurors, .int r1_floors, .int r1_cases, .int r1_one, .int r1_dent, .int r1_seated, .ref r1_jurorName, .ref r1_floorName, .ref r1_caseName, .ref r1_pitch, .ref r1_length, .ref r1_hands, .ref r1_tune, .ref r1_dull, .ref r1_caseFloor, .ref r1_tuned])), (aI ca h0_how 5 u.2.2.2.1), (aI ca r1_caseFloor 5 F_r1_caseFloor), (aI ca r1_tuned 40 F_r1_tuned), (aI ca r1_pitch 10 F_r1_pitch), (aI ca r1_tune 4 F_r1_tune), (aI ca h0_dents 10 u.2.2.2.2.1), (aI ca h0_triedOn 5 u.2.2.2.2.2.1), (aI ca h0_dropped 5 u.2.2.2.2.2.2.1), (aI ca h0_heldOn 5 u.2.2.2.2.2.2.2.1), (aI ca h0_drops 10 u.2.2.2.2.2.2.2.2), (aI ca r1_hands 10 F_r1_hands)])) A) ([.ref h0, .ref r1, .int a2] : List Value).toArray s 0 0 A) (F0 m 5 ls []) := by
    intro n
    induction n with
    | zero => intro y5_0 y5_1 y5_2 y5_3 f5_4 _ hy5_1 hy5_2 hn; exact absurd hn (by have q9 := hy5_1.2; omega)
    | succ n ih =>
      intro y5_0 y5_1 y5_2 y5_3 f5_4 _ hy5_1 hy5_2 hn H locs ls hP hD hS hl
      have J42_664 : ∀ (y42_0 : Int32) (y42_1 : Int32), rg 2 3 y42_1 → rg 1 10 r1_jurors → rg 0 9 y5_1 → rl 1 y5_1 r1_jurors → ∀ (H : Heap) (locs : List Loc) (ls : Array Slot), va_P D vwCl [(h0, .inr (9, [.int h0_day, .int y5_2, .int y5_3, .int h0_trials, .int h0_triedToday, .ref h0_dents, .ref h0_drops, .ref h0_how, .ref h0_triedOn, .ref h0_dropped, .ref h0_heldOn])), (r1, .inr (5, [.int r1_jurors, .int r1_floors, .int r1_cases, .int r1_one, .int r1_dent, .int r1_seated, .ref r1_jurorName, .ref r1_floorName, .ref r1_caseName, .ref r1_pitch, .ref r1_length, .ref r1_hands, .ref r1_tune, .ref r1_dull, .ref r1_caseFloor, .ref r1_tuned])), (aI ca h0_how 5 F_h0_how), (aI ca r1_caseFloor 5 F_r1_caseFloor), (aI ca r1_tuned 40 F_r1_tuned), (aI ca r1_pitch 10 F_r1_pitch), (aI ca r1_tune 4 F_r1_tune), (aI ca h0_dents 10 f5_4), (aI ca h0_triedOn 5 F_h0_triedOn), (aI ca h0_dropped 5 F_h0_dropped), (aI ca h0_heldOn 5 F_h0_heldOn), (aI ca h0_drops 10 F_h0_drops), (aI ca r1_hands 10 F_r1_hands)] H → va_D A [(h0, .inr (9, [.int h0_day, .int y5_2, .int y5_3, .int h0_trials, .int h0_triedToday, .ref h0_dents, .ref h0_drops, .ref h0_how, .ref h0_triedOn, .ref h0_dropped, .ref h0_heldOn])), (r1, .inr (5, [.int r1_jurors, .int r1_floors, .int r1_cases, .int r1_one, .int r1_dent, .int r1_seated, .ref r1_jurorName, .ref r1_floorName, .ref r1_caseName, .ref r1_pitch, .ref r1_length, .ref r1_hands, .ref r1_tune, .ref r1_dull, .ref r1_caseFloor, .ref r1_tuned])), (aI ca h0_how 5 F_h0_how), (aI ca r1_caseFloor 5 F_r1_caseFloor), (aI ca r1_tuned 40 F_r1_tuned), (aI ca r1_pitch 10 F_r1_pitch), (aI ca r1_tune 4 F_r1_tune), (aI ca h0_dents 10 f5_4), (aI ca h0_triedOn 5 F_h0_triedOn), (aI ca h0_dropped 5 F_h0_dropped), (aI ca h0_heldOn 5 F_h0_heldOn), (aI ca h0_drops 10 F_h0_drops), (aI ca r1_hands 10 F_r1_hands)] → va_S A s.heap H locs → lv_has ls 5 [(0, .ref h0), (1, .ref r1), (3, .int y42_0), (4, .int y5_1)] → W p l e ({ frames := 4, cells := 0, slots := 0, locals := 99 } : Room) s m ([.ref h0, .ref r1, .int a2] : List Value).toArray below meth c H locs 0 0 (MQ below ((oQi D (fun (r : Int32) (u : Int32 × Int32 × Int32 × (Nat → Int32) × (Nat → Int32) × (Nat → Int32) × (Nat → Int32) × (Nat → Int32) × (Nat → Int32)) => (rg (-2147483648) 400 u.1) ∧ (rg 0 1023 u.2.1)) (fun (u : Int32 × Int32 × Int32 × (Nat → Int32) × (Nat → Int32) × (Nat → Int32) × (Nat → Int32) × (Nat → Int32) × (Nat → Int32)) => [(h0, .inr (9, [.int u.1, .int u.2.1, .int 0, .int u.2.2.1, .int 0, .ref h0_dents, .ref h0_drops, .ref h0_how, .ref h0_triedOn, .ref h0_dropped, .ref h0_heldOn])), (r1, .inr (5, [.int r1_jurors, .int r1_floors, .int r1_cases, .int r1_one, .int r1_dent, .int r1_seated, .ref r1_jurorName, .ref r1_floorName, .ref r1_caseName, .ref r1_pitch, .ref r1_length, .ref r1_hands, .ref r1_tune, .ref r1_dull, .ref r1_caseFloor, .ref r1_tuned])), (aI ca h0_how 5 u.2.2.2.1), (aI ca r1_caseFloor 5 F_r1_caseFloor), (aI ca r1_tuned 40 F_r1_tuned), (aI ca r1_pitch 10 F_r1_pitch), (aI ca r1_tune 4 F_r1_tune), (aI ca h0_dents 10 u.2.2.2.2.1), (aI ca h0_triedOn 5 u.2.2.2.2.2.1), (aI ca h0_dropped 5 u.2.2.2.2.2.2.1), (aI ca h0_heldOn 5 u.2.2.2.2.2.2.2.1), (aI ca h0_drops 10 u.2.2.2.2.2.2.2.2), (aI ca r1_hands 10 F_r1_hands)])) A) ([.ref h0, .ref r1, .int a2] : List Value).toArray s 0 0 A) (F0 m 42 ls [.int y42_1, .ref r1, .ref h0]) := by
        intro y42_0 y42_1 hy42_1 t42_r1_jurors t42_y5_1 o42_y5_1_r1_jurors H locs ls hP hD hS hl
        refine lv_iload hx hb dX9_drawDay_42 (lv_at hl 3 rfl) ?_
        refine oC_v (Wc := [(h0, .inr (9, [.int h0_day, .int y5_2, .int y5_3, .int h0_trials, .int h0_triedToday, .ref h0_dents, .ref h0_drops, .ref h0_how, .ref h0_triedOn, .ref h0_dropped, .ref h0_heldOn])), (aI ca h0_dents 10 f5_4)]) (Wr := [(r1, .inr (5, [.int r1_jurors, .int r1_floors, .int r1_cases, .int r1_one, .int r1_dent, .int r1_seated, .ref r1_jurorName, .ref r1_floorName, .ref r1_caseName, .ref r1_pitch, .ref r1_length, .ref r1_hands, .ref r1_tune, .ref r1_dull, .ref r1_caseFloor, .ref r1_tuned])), (aI ca h0_how 5 F_h0_how), (aI ca r1_caseFloor 5 F_r1_caseFloor), (aI ca r1_tuned 40 F_r1_tuned), (aI ca r1_pitch 10 F_r1_pitch), (aI ca r1_tune 4 F_r1_tune), (aI ca h0_triedOn 5 F_h0_triedOn), (aI ca h0_dropped 5 F_h0_dropped), (aI ca h0_heldOn 5 F_h0_heldOn), (aI ca h0_drops 10 F_h0_drops), (aI ca r1_hands 10 F_r1_hands)]) (va_runV (As := [.ref r1, .int y42_1, .int y5_1]) (rest := []) ⟨hx, hb, hml, hown, hts⟩ (s_X9_carryOuta l D ca H.size h0 r1 y42_1 y5_1 h0_day y5_2 y5_3 h0_trials h0_triedToday h0_dents h0_drops h0_how h0_triedOn h0_dropped h0_heldOn f5_4 (rgw (lo := 0) (hi := 4) hy42_1 (by decide) (by decide)) t42_y5_1 hy5_2 i_h0_triedToday) (cwV 3 hts gX9_drawDay_X9_carryOut rfl rfl rfl (by decide +kernel) ⟨Nat.le_of_ble_eq_true rfl, Nat.le_of_ble_eq_true rfl⟩) (oPV (C := RX9) hK hP hD [0, 7] rfl (by decide) 0 rfl (ci := 9) rfl rfl) rfl rfl hl.1 rfl (lv_room (Nat.le_of_ble_eq_true rfl)) dX9_drawDay_44 ⟨Nat.le_of_ble_eq_true rfl, Nat.le_of_ble_eq_true rfl⟩) hP hD hS hA [0, 7] [1, 2, 3, 4, 5, 6, 8, 9, 10, 11, 12] rfl rfl (by decide) (by decide) (fun u H locs w_666 hP hD hS => ?_)
        obtain ⟨u_667, u_668, u_669⟩ := u
        have hP : va_P D vwCl [(r1, .inr (5, [.int r1_jurors, .int r1_floors, .int r1_cases, .int r1_one, .int r1_dent, .int r1_seated, .ref r1_jurorName, .ref r1_floorName, .ref r1_caseName, .ref r1_pitch, .ref r1_length, .ref r1_hands, .ref r1_tune, .ref r1_dull, .ref r1_caseFloor, .ref r1_tuned])), (aI ca h0_how 5 F_h0_how), (aI ca r1_caseFloor 5 F_r1_caseFloor), (aI ca r1_tuned 40 F_r1_tuned), (aI ca r1_pitch 10 F_r1_pitch), (aI ca r1_tune 4 F_r1_tune), (aI ca h0_triedOn 5 F_h0_triedOn), (aI ca h0_dropped 5 F_h0_dropped), (aI ca h0_heldOn 5 F_h0_heldOn), (aI ca h0_drops 10 F_h0_drops), (aI ca r1_hands 10 F_r1_hands), (h0, .inr (9, [.int h0_day, .int u_667, .int u_668, .int h0_trials, .int h0_triedToday, .ref h0_dents, .ref h0_drops, .ref h0_how, .ref h0_triedOn, .ref h0_dropped, .ref h0_heldOn])), (aI ca h0_dents 10 u_669)] H := hP
        have hD : va_D A [(r1, .inr (5, [.int r1_jurors, .int r1_floors, .int r1_cases, .int r1_one, .int r1_dent, .int r1_seated, .ref r1_jurorName, .ref r1_floorName, .ref r1_caseName, .ref r1_pitch, .ref r1_length, .ref r1_hands, .ref r1_tune, .ref r1_dull, .ref r1_caseFloor, .ref r1_tuned])), (aI ca h0_how 5 F_h0_how), (aI ca r1_caseFloor 5 F_r1_caseFloor), (aI ca r1_tuned 40 F_r1_tuned), (aI ca r1_pitch 10 F_r1_pitch), (aI ca r1_tune 4 F_r1_tune), (aI ca h0_triedOn 5 F_h0_triedOn), (aI ca h0_dropped 5 F_h0_dropped), (aI ca h0_heldOn 5 F_h0_heldOn), (aI ca h0_drops 10 F_h0_drops), (aI ca r1_hands 10 F_r1_hands), (h0, .inr (9, [.int h0_day, .int u_667, .int u_668, .int h0_trials, .int h0_triedToday, .ref h0_dents, .ref h0_drops, .ref h0_how, .ref h0_triedOn, .ref h0_dropped, .ref h0_heldOn])), (aI ca h0_dents 10 u_669)] := hD
        try dsimp only at w_666
        have h_670 := w_666
        obtain ⟨x_671, ex_671⟩ : ∃ y : Int32, y = y5_1 + 1 := ⟨_, rfl⟩
        have h_672 : rg 1 10 x_671 := by rw [ex_671]; exact rg_add t42_y5_1 (⟨by decide, by decide⟩ : rg 1 1 (1 : Int32)) (by decide) (by decide) (by decide) (by decide)
        have l_673 : lq x_671.toInt (y5_1.toInt + 1) := lqm (by rw [ex_671]; have q := tadd t42_y5_1 (⟨by decide, by decide⟩ : rg 1 1 (1 : Int32)) (by decide) (by decide); have r1 := lqe (lqm (by decide) : lq (1 : Int32).toInt 1); omega)
        refine lv_iinc (v := x_671) (lv' := [(4, .int x_671), (0, .ref h0), (1, .ref r1), (3, .int y42_0)]) hx hb dX9_drawDay_47 hl (k := 3) rfl (by rw [ex_671]; rfl) (by decide) rfl (fun ls hl => ?_)
        refine lv_goto (tgt := 5) hx hb dX9_drawDay_50 (by decide) ?_
        exact ih y42_0 x_671 u_667 u_668 u_669 trivial (rgw (lo := 0) (hi := 10) h_672 (by decide) (by decide)) h_670 (by have q0 := lqe l_673; omega) H locs ls (oPsub hP [11, 0, 1, 2, 3, 4, 5, 12, 6, 7, 8, 9, 10] rfl) (hD.sub [11, 0, 1, 2, 3, 4, 5, 12, 6, 7, 8, 9, 10] (by decide) rfl) hS (lv_sub hl [1, 2, 3, 0] rfl)
      refine lv_iload hx hb dX9_drawDay_5 (lv_at hl 3 rfl) ?_
      refine lv_aload_n hx hb dX9_drawDay_7 rfl (lv_at hl 1 rfl) ?_
      refine va_get (D := D) (ci := 5) (v := .int r1_jurors) (C := RX5) (T := TX5) (N := 16) hx hb hts k2 hown hK.1 hP 1 rfl rfl 0 (by decide) k1 (fun _ h9 => h9) rfl dX9_drawDay_8 ?_
      refine lv_icmp_ge (tgt := 53) hx hb dX9_drawDay_11 (by decide) (fun c_674 => ?_) (fun c_674 => ?_)
      · skip
        have o_675 : rl 0 r1_jurors y5_1 := rl_le c_674
        refine lv_aload_n hx hb dX9_drawDay_53 rfl (lv_at hl 1 rfl) ?_
        refine va_get (D := D) (ci := 5) (v := .int r1_cases) (C := RX5) (T := TX5) (N := 16) hx hb hts k2 hown hK.1 hP 1 rfl rfl 2 (by decide) k5 (fun _ h9 => h9) rfl dX9_drawDay_54 ?_
        refine lv_if_le (tgt := 91) hx hb dX9_drawDay_57 (by decide) (fun c_676 => ?_) (fun c_676 => ?_)
        · skip
          have o_677 : rl 0 r1_cases 0 := rl_le c_676
          have h_678 : rg 0 0 r1_cases := rl_x o_677 i_r1_cases (⟨by decide, by decide⟩ : rg 0 0 (0 : Int32)) (by decide) (by decide)
          exact J91_582 y5_0 y5_2 y5_3 h0_trials h0_triedToday F_h0_how f5_4 F_h0_triedOn F_h0_dropped F_h0_heldOn F_h0_drops hy5_2 i_h0_triedToday H locs ls (oPsub hP [0, 1, 2, 3, 4, 5, 6, 7, 8, 9, 10, 11, 12] rfl) (hD.sub [0, 1, 2, 3, 4, 5, 6, 7, 8, 9, 10, 11, 12] (by decide) rfl) hS (lv_sub hl [0, 1, 2] rfl)
        · skip
          have o_679 : rl 1 0 r1_cases := rl_nle c_676
          have h_680 : rg 1 5 r1_cases := rl_y o_679 (⟨by decide, by decide⟩ : rg 0 0 (0 : Int32)) i_r1_cases (by decide) (by decide)
          refine lv_iload_n hx hb dX9_drawDay_60 rfl (lv_at hl 2 rfl) ?_
          refine oC_i (Wc := []) (Wr := [(h0, .inr (9, [.int h0_day, .int y5_2, .int y5_3, .int h0_trials, .int h0_triedToday, .ref h0_dents, .ref h0_drops, .ref h0_how, .ref h0_triedOn, .ref h0_dropped, .ref h0_heldOn])), (r1, .inr (5, [.int r1_jurors, .int r1_floors, .int r1_cases, .int r1_one, .int r1_dent, .int r1_seated, .ref r1_jurorName, .ref r1_floorName, .ref r1_caseName, .ref r1_pitch, .ref r1_length, .ref r1_hands, .ref r1_tune, .ref r1_dull, .ref r1_caseFloor, .ref r1_tuned])), (aI ca h0_how 5 F_h0_how), (aI ca r1_caseFloor 5 F_r1_caseFloor), (aI ca r1_tuned 40 F_r1_tuned), (aI ca r1_pitch 10 F_r1_pitch), (aI ca r1_tune 4 F_r1_tune), (aI ca h0_dents 10 f5_4), (aI ca h0_triedOn 5 F_h0_triedOn), (aI ca h0_dropped 5 F_h0_dropped), (aI ca h0_heldOn 5 F_h0_heldOn), (aI ca h0_drops 10 F_h0_drops), (aI ca r1_hands 10 F_r1_hands)]) (va_runS (As := [.int y5_0]) (rest := []) ⟨hx, hb, hml, hown, hts⟩ (s_X9_afterDraw l D ca H.size y5_0) (va_cwS 1 hts gX9_drawDay_X9_afterDraw rfl rfl rfl (by decide +kernel) ⟨Nat.le_of_ble_eq_true rfl, Nat.le_of_ble_eq_true rfl⟩) (oPS hK hP hD [] rfl (by decide)) rfl rfl hl.1 rfl (lv_room (Nat.le_of_ble_eq_true rfl)) dX9_drawDay_61 ⟨Nat.le_of_ble_eq_true rfl, Nat.le_of_ble_eq_true rfl⟩) hP hD hS hA [] [0, 1, 2, 3, 4, 5, 6, 7, 8, 9, 10, 11, 12] rfl rfl (by decide) (by decide) (fun r_681 u H locs w_682 hP hD hS => ?_)
          obtain ⟨⟩ := u
          have hP : va_P D vwCl [(h0, .inr (9, [.int h0_day, .int y5_2, .int y5_3, .int h0_trials, .int h0_triedToday, .ref h0_dents, .ref h0_drops, .ref h0_how, .ref h0_triedOn, .ref h0_dropped, .ref h0_heldOn])), (r1, .inr (5, [.int r1_jurors, .int r1_floors, .int r1_cases, .int r1_one, .int r1_dent, .int r1_seated, .ref r1_jurorName, .ref r1_floorName, .ref r1_caseName, .ref r1_pitch, .ref r1_length, .ref r1_hands, .ref r1_tune, .ref r1_dull, .ref r1_caseFloor, .ref r1_tuned])), (aI ca h0_how 5 F_h0_how), (aI ca r1_caseFloor 5 F_r1_caseFloor), (aI ca r1_tuned 40 F_r1_tuned), (aI ca r1_pitch 10 F_r1_pitch), (aI ca r1_tune 4 F_r1_tune), (aI ca h0_dents 10 f5_4), (aI ca h0_triedOn 5 F_h0_triedOn), (aI ca h0_dropped 5 F_h0_dropped), (aI ca h0_heldOn 5 F_h0_heldOn), (aI ca h0_drops 10 F_h0_drops), (aI ca r1_hands 10 F_r1_hands)] H := hP
          have hD : va_D A [(h0, .inr (9, [.int h0_day, .int y5_2, .int y5_3, .int h0_trials, .int h0_triedToday, .ref h0_dents, .ref h0_drops, .ref h0_how, .ref h0_triedOn, .ref h0_dropped, .ref h0_heldOn])), (r1, .inr (5, [.int r1_jurors, .int r1_floors, .int r1_cases, .int r1_one, .int r1_dent, .int r1_seated, .ref r1_jurorName, .ref r1_floorName, .ref r1_caseName, .ref r1_pitch, .ref r1_length, .ref r1_hands, .ref r1_tune, .ref r1_dull, .ref r1_caseFloor, .ref r1_tuned])), (aI ca h0_how 5 F_h0_how), (aI ca r1_caseFloor 5 F_r1_caseFloor), (aI ca r1_tuned 40 F_r1_tuned), (aI ca r1_pitch 10 F_r1_pitch), (aI ca r1_tune 4 F_r1_tune), (aI ca h0_dents 10 f5_4), (aI ca h0_triedOn 5 F_h0_triedOn), (aI ca h0_dropped 5 F_h0_dropped), (aI ca h0_heldOn 5 F_h0_heldOn), (aI ca h0_drops 10 F_h0_drops), (aI ca r1_hands 10 F_r1_hands)] := hD
          try dsimp only at w_682
          refine lv_istore_n (lv' := [(3, .int r_681), (0, .ref h0), (1, .ref r1), (4, .int y5_1)]) hx hb dX9_drawDay_64 rfl hl (by decide) rfl (fun ls hl => ?_)
          refine lv_iload_n hx hb dX9_drawDay_65 rfl (lv_at hl 0 rfl) ?_
          refine lv_aload_n hx hb dX9_drawDay_66 rfl (lv_at hl 2 rfl) ?_
          refine va_get (D := D) (ci := 5) (v := .int r1_cases) (C := RX5) (T := TX5) (N := 16) hx hb hts k2 hown hK.1 hP 1 rfl rfl 2 (by decide) k5 (fun _ h9 => h9) rfl dX9_drawDay_67 ?_
          refine oC_i (Wc := []) (Wr := [(h0, .inr (9, [.int h0_day, .int y5_2, .int y5_3, .int h0_trials, .int h0_triedToday, .ref h0_dents, .ref h0_drops, .ref h0_how, .ref h0_triedOn, .ref h0_dropped, .ref h0_heldOn])), (r1, .inr (5, [.int r1_jurors, .int r1_floors, .int r1_cases, .int r1_one, .int r1_dent, .int r1_seated, .ref r1_jurorName, .ref r1_floorName, .ref r1_caseName, .ref r1_pitch, .ref r1_length, .ref r1_hands, .ref r1_tune, .ref r1_dull, .ref r1_caseFloor, .ref r1_tuned])), (aI ca h0_how 5 F_h0_how), (aI ca r1_caseFloor 5 F_r1_caseFloor), (aI ca r1_tuned 40 F_r1_tuned), (aI ca r1_pitch 10 F_r1_pitch), (aI ca r1_tune 4 F_r1_tune), (aI ca h0_dents 10 f5_4), (aI ca h0_triedOn 5 F_h0_triedOn), (aI ca h0_dropped 5 F_h0_dropped), (aI ca h0_heldOn 5 F_h0_heldOn), (aI ca h0_drops 10 F_h0_drops), (aI ca r1_hands 10 F_r1_hands)]) (va_runS (As := [.int r_681, .int r1_cases]) (rest := []) ⟨hx, hb, hml, hown, hts⟩ (s_X9_drawOf l D ca H.size r_681 r1_cases (rgw (lo := 1) (hi := 12) h_680 (by decide) (by decide))) (va_cwS 2 hts gX9_drawDay_X9_drawOf rfl rfl rfl (by decide +kernel) ⟨Nat.le_of_ble_eq_true rfl, Nat.le_of_ble_eq_true rfl⟩) (oPS hK hP hD [] rfl (by decide)) rfl rfl hl.1 rfl (lv_room (Nat.le_of_ble_eq_true rfl)) dX9_drawDay_70 ⟨Nat.le_of_ble_eq_true rfl, Nat.le_of_ble_eq_true rfl⟩) hP hD hS hA [] [0, 1, 2, 3, 4, 5, 6, 7, 8, 9, 10, 11, 12] rfl rfl (by decide) (by decide) (fun r_683 u H locs w_684 hP hD hS => ?_)
          obtain ⟨⟩ := u
          have hP : va_P D vwCl [(h0, .inr (9, [.int h0_day, .int y5_2, .int y5_3, .int h0_trials, .int h0_triedToday, .ref h0_dents, .ref h0_drops, .ref h0_how, .ref h0_triedOn, .ref h0_dropped, .ref h0_heldOn])), (r1, .inr (5, [.int r1_jurors, .int r1_floors, .int r1_cases, .int r1_one, .int r1_dent, .int r1_seated, .ref r1_jurorName, .ref r1_floorName, .ref r1_caseName, .ref r1_pitch, .ref r1_length, .ref r1_hands, .ref r1_tune, .ref r1_dull, .ref r1_caseFloor, .ref r1_tuned])), (aI ca h0_how 5 F_h0_how), (aI ca r1_caseFloor 5 F_r1_caseFloor), (aI ca r1_tuned 40 F_r1_tuned), (aI ca r1_pitch 10 F_r1_pitch), (aI ca r1_tune 4 F_r1_tune), (aI ca h0_dents 10 f5_4), (aI ca h0_triedOn 5 F_h0_triedOn), (aI ca h0_dropped 5 F_h0_dropped), (aI ca h0_heldOn 5 F_h0_heldOn), (aI ca h0_drops 10 F_h0_drops), (aI ca r1_hands 10 F_r1_hands)] H := hP
          have hD : va_D A [(h0, .inr (9, [.int h0_day, .int y5_2, .int y5_3, .int h0_trials, .int h0_triedToday, .ref h0_dents, .ref h0_drops, .ref h0_how, .ref h0_triedOn, .ref h0_dropped, .ref h0_heldOn])), (r1, .inr (5, [.int r1_jurors, .int r1_floors, .int r1_cases, .int r1_one, .int r1_dent, .int r1_seated, .ref r1_jurorName, .ref r1_floorName, .ref r1_caseName, .ref r1_pitch, .ref r1_length, .ref r1_hands, .ref r1_tune, .ref r1_dull, .ref r1_caseFloor, .ref r1_tuned])), (aI ca h0_how 5 F_h0_how), (aI ca r1_caseFloor 5 F_r1_caseFloor), (aI ca r1_tuned 40 F_r1_tuned), (aI ca r1_pitch 10 F_r1_pitch), (aI ca r1_tune 4 F_r1_tune), (aI ca h0_dents 10 f5_4), (aI ca h0_triedOn 5 F_h0_triedOn), (aI ca h0_dropped 5 F_h0_dropped), (aI ca h0_heldOn 5 F_h0_heldOn), (aI ca h0_drops 10 F_h0_drops), (aI ca r1_hands 10 F_r1_hands)] := hD
          try dsimp only at w_684
          obtain ⟨h_685, h_686⟩ := w_684
          have h_687 : rg 0 4 r_683 := rl_x h_686 h_685 h_680 (by decide) (by decide)
          refine lv_istore (lv' := [(4, .int r_683), (3, .int r_681), (0, .ref h0), (1, .ref r1)]) hx hb dX9_drawDay_73 hl (by decide) rfl (fun ls hl => ?_)
          refine lv_aload_n hx hb dX9_drawDay_75 rfl (lv_at hl 2 rfl) ?_
          refine lv_iload hx hb dX9_drawDay_76 (lv_at hl 0 rfl) ?_
          refine oC_i (Wc := [(h0, .inr (9, [.int h0_day, .int y5_2, .int y5_3, .int h0_trials, .int h0_triedToday, .ref h0_dents, .ref h0_drops, .ref h0_how, .ref h0_triedOn, .ref h0_dropped, .ref h0_heldOn])), (aI ca h0_how 5 F_h0_how)]) (Wr := [(r1, .inr (5, [.int r1_jurors, .int r1_floors, .int r1_cases, .int r1_one, .int r1_dent, .int r1_seated, .ref r1_jurorName, .ref r1_floorName, .ref r1_caseName, .ref r1_pitch, .ref r1_length, .ref r1_hands, .ref r1_tune, .ref r1_dull, .ref r1_caseFloor, .ref r1_tuned])), (aI ca r1_caseFloor 5 F_r1_caseFloor), (aI ca r1_tuned 40 F_r1_tuned), (aI ca r1_pitch 10 F_r1_pitch), (aI ca r1_tune 4 F_r1_tune), (aI ca h0_dents 10 f5_4), (aI ca h0_triedOn 5 F_h0_triedOn), (aI ca h0_dropped 5 F_h0_dropped), (aI ca h0_heldOn 5 F_h0_heldOn), (aI ca h0_drops 10 F_h0_drops), (aI ca r1_hands 10 F_r1_hands)]) (va_runV (As := [.int r_683]) (rest := []) ⟨hx, hb, hml, hown, hts⟩ (s_X9_whyNotTry l D ca H.size h0 r_683 h0_day y5_2 y5_3 h0_trials h0_triedToday h0_dents h0_drops h0_how h0_triedOn h0_dropped h0_heldOn F_h0_how h_687 hy5_2 i_h0_triedToday) (cwV 1 hts gX9_drawDay_X9_whyNotTry rfl rfl rfl (by decide +kernel) ⟨Nat.le_of_ble_eq_true rfl, Nat.le_of_ble_eq_true rfl⟩) (oPV (C := RX9) hK hP hD [0, 2] rfl (by decide) 0 rfl (ci := 9) rfl rfl) rfl rfl hl.1 rfl (lv_room (Nat.le_of_ble_eq_true rfl)) dX9_drawDay_78 ⟨Nat.le_of_ble_eq_true rfl, Nat.le_of_ble_eq_true rfl⟩) hP hD hS hA [0, 2] [1, 3, 4, 5, 6, 7, 8, 9, 10, 11, 12] rfl rfl (by decide) (by decide) (fun r_688 u H locs w_689 hP hD hS => ?_)
          obtain ⟨⟩ := u
          have hP : va_P D vwCl [(r1, .inr (5, [.int r1_jurors, .int r1_floors, .int r1_cases, .int r1_one, .int r1_dent, .int r1_seated, .ref r1_jurorName, .ref r1_floorName, .ref r1_caseName, .ref r1_pitch, .ref r1_length, .ref r1_hands, .ref r1_tune, .ref r1_dull, .ref r1_caseFloor, .ref r1_tuned])), (aI ca r1_caseFloor 5 F_r1_caseFloor), (aI ca r1_tuned 40 F_r1_tuned), (aI ca r1_pitch 10 F_r1_pitch), (aI ca r1_tune 4 F_r1_tune), (aI ca h0_dents 10 f5_4), (aI ca h0_triedOn 5 F_h0_triedOn), (aI ca h0_dropped 5 F_h0_dropped), (aI ca h0_heldOn 5 F_h0_heldOn), (aI ca h0_drops 10 F_h0_drops), (aI ca r1_hands 10 F_r1_hands), (h0, .inr (9, [.int h0_day, .int y5_2, .int y5_3, .int h0_trials, .int h0_triedToday, .ref h0_dents, .ref h0_drops, .ref h0_how, .ref h0_triedOn, .ref h0_dropped, .ref h0_heldOn])), (aI ca h0_how 5 F_h0_how)] H := hP
          have hD : va_D A [(r1, .inr (5, [.int r1_jurors, .int r1_floors, .int r1_cases, .int r1_one, .int r1_dent, .int r1_seated, .ref r1_jurorName, .ref r1_floorName, .ref r1_caseName, .ref r1_pitch, .ref r1_length, .ref r1_hands, .ref r1_tune, .ref r1_dull, .ref r1_caseFloor, .ref r1_tuned])), (aI ca r1_caseFloor 5 F_r1_caseFloor), (aI ca r1_tuned 40 F_r1_tuned), (aI ca r1_pitch 10 F_r1_pitch), (aI ca r1_tune 4 F_r1_tune), (aI ca h0_dents 10 f5_4), (aI ca h0_triedOn 5 F_h0_triedOn), (aI ca h0_dropped 5 F_h0_dropped), (aI ca h0_heldOn 5 F_h0_heldOn), (aI ca h0_drops 10 F_h0_drops), (aI ca r1_hands 10 F_r1_hands), (h0, .inr (9, [.int h0_day, .int y5_2, .int y5_3, .int h0_trials, .int h0_triedToday, .ref h0_dents, .ref h0_drops, .ref h0_how, .ref h0_triedOn, .ref h0_dropped, .ref h0_heldOn])), (aI ca h0_how 5 F_h0_how)] := hD
          try dsimp only at w_689
          have h_690 := w_689
          refine lv_if_ne (tgt := 91) hx hb dX9_drawDay_81 (by decide) (fun c_691 => ?_) (fun c_691 => ?_)
          · skip
            have h_692 : rg 1 3 r_688 := cl_nlo c_691 h_690 (show (0 : Int32).toInt = 0 by decide) (by decide) (by decide)
            exact J91_582 r_681 y5_2 y5_3 h0_trials h0_triedToday F_h0_how f5_4 F_h0_triedOn F_h0_dropped F_h0_heldOn F_h0_drops hy5_2 i_h0_triedToday H locs ls (oPsub hP [11, 0, 12, 1, 2, 3, 4, 5, 6, 7, 8, 9, 10] rfl) (hD.sub [11, 0, 12, 1, 2, 3, 4, 5, 6, 7, 8, 9, 10] (by decide) rfl) hS (lv_sub hl [2, 3, 1] rfl)
          · skip
            have o_693 : rl 0 r_688 0 := rl_eq c_691
            have h_694 : rg 0 0 r_688 := rl_x o_693 h_690 (⟨by decide, by decide⟩ : rg 0 0 (0 : Int32)) (by decide) (by decide)
            have o_695 : rl 0 0 r_688 := rl_eq c_691.symm
            refine lv_aload_n hx hb dX9_drawDay_84 rfl (lv_at hl 2 rfl) ?_
            refine lv_aload_n hx hb dX9_drawDay_85 rfl (lv_at hl 3 rfl) ?_
            refine lv_iload hx hb dX9_drawDay_86 (lv_at hl 0 rfl) ?_
            refine oC_v (Wc := [(h0, .inr (9, [.int h0_day, .int y5_2, .int y5_3, .int h0_trials, .int h0_triedToday, .ref h0_dents, .ref h0_drops, .ref h0_how, .ref h0_triedOn, .ref h0_dropped, .ref h0_heldOn])), (r1, .inr (5, [.int r1_jurors, .int r1_floors, .int r1_cases, .int r1_one, .int r1_dent, .int r1_seated, .ref r1_jurorName, .ref r1_floorName, .ref r1_caseName, .ref r1_pitch, .ref r1_length, .ref r1_hands, .ref r1_tune, .ref r1_dull, .ref r1_caseFloor, .ref r1_tuned])), (aI ca r1_caseFloor 5 F_r1_caseFloor), (aI ca r1_tuned 40 F_r1_tuned), (aI ca r1_pitch 10 F_r1_pitch), (aI ca r1_tune 4 F_r1_tune), (aI ca h0_dents 10 f5_4), (aI ca h0_how 5 F_h0_how), (aI ca h0_triedOn 5 F_h0_triedOn), (aI ca h0_dropped 5 F_h0_dropped), (aI ca h0_heldOn 5 F_h0_heldOn), (aI ca h0_drops 10 F_h0_drops)]) (Wr := [(aI ca r1_hands 10 F_r1_hands)]) (va_runV (As := [.ref r1, .int r_683]) (rest := []) ⟨hx, hb, hml, hown, hts⟩ (s_X9_dropLids l D ca H.size h0 r1 r_683 h0_day y5_2 y5_3 h0_trials h0_triedToday h0_dents h0_drops h0_how h0_triedOn h0_dropped h0_heldOn r1_jurors r1_floors r1_cases r1_one r1_dent r1_seated r1_jurorName r1_floorName r1_caseName r1_pitch r1_length r1_hands r1_tune r1_dull r1_caseFloor r1_tuned F_r1_caseFloor F_r1_tuned F_r1_pitch F_r1_tune f5_4 F_h0_how F_h0_triedOn F_h0_dropped F_h0_heldOn F_h0_drops h_687 hy5_2 i_h0_triedToday i_r1_jurors i_r1_floors (rgw (lo := 0) (hi := 5) h_680 (by decide) (by decide)) i_r1_seated (sg_w (a' := 0) (b' := 5) (lo' := 0) (hi' := 3) s_r1_caseFloor_0 (by decide) (by decide) (by decide) (by decide))) (cwV 2 hts gX9_drawDay_X9_dropLids rfl rfl rfl (by decide +kernel) ⟨Nat.le_of_ble_eq_true rfl, Nat.le_of_ble_eq_true rfl⟩) (oPV (C := RX9) hK hP hD [11, 0, 1, 2, 3, 4, 5, 12, 6, 7, 8, 9] rfl (by decide) 0 rfl (ci := 9) rfl rfl) rfl rfl hl.1 rfl (lv_room (Nat.le_of_ble_eq_true rfl)) dX9_drawDay_88 ⟨Nat.le_of_ble_eq_true rfl, Nat.le_of_ble_eq_true rfl⟩) hP hD hS hA [11, 0, 1, 2, 3, 4, 5, 12, 6, 7, 8, 9] [10] rfl rfl (by decide) (by decide) (fun u H locs w_697 hP hD hS => ?_)
            obtain ⟨u_698, u_699, u_700, u_701, u_702, u_703, u_704⟩ := u
            have hP : va_P D vwCl [(aI ca r1_hands 10 F_r1_hands), (h0, .inr (9, [.int h0_day, .int y5_2, .int y5_3, .int u_698, .int 1, .ref h0_dents, .ref h0_drops, .ref h0_how, .ref h0_triedOn, .ref h0_dropped, .ref h0_heldOn])), (r1, .inr (5, [.int r1_jurors, .int r1_floors, .int r1_cases, .int r1_one, .int r1_dent, .int r1_seated, .ref r1_jurorName, .ref r1_floorName, .ref r1_caseName, .ref r1_pitch, .ref r1_length, .ref r1_hands, .ref r1_tune, .ref r1_dull, .ref r1_caseFloor, .ref r1_tuned])), (aI ca r1_caseFloor 5 F_r1_caseFloor), (aI ca r1_tuned 40 F_r1_tuned), (aI ca r1_pitch 10 F_r1_pitch), (aI ca r1_tune 4 F_r1_tune), (aI ca h0_dents 10 u_699), (aI ca h0_how 5 u_700), (aI ca h0_triedOn 5 u_701), (aI ca h0_dropped 5 u_702), (aI ca h0_heldOn 5 u_703), (aI ca h0_drops 10 u_704)] H := hP
            have hD : va_D A [(aI ca r1_hands 10 F_r1_hands), (h0, .inr (9, [.int h0_day, .int y5_2, .int y5_3, .int u_698, .int 1, .ref h0_dents, .ref h0_drops, .ref h0_how, .ref h0_triedOn, .ref h0_dropped, .ref h0_heldOn])), (r1, .inr (5, [.int r1_jurors, .int r1_floors, .int r1_cases, .int r1_one, .int r1_dent, .int r1_seated, .ref r1_jurorName, .ref r1_floorName, .ref r1_caseName, .ref r1_pitch, .ref r1_length, .ref r1_hands, .ref r1_tune, .ref r1_dull, .ref r1_caseFloor, .ref r1_tuned])), (aI ca r1_caseFloor 5 F_r1_caseFloor), (aI ca r1_tuned 40 F_r1_tuned), (aI ca r1_pitch 10 F_r1_pitch), (aI ca r1_tune 4 F_r1_tune), (aI ca h0_dents 10 u_699), (aI ca h0_how 5 u_700), (aI ca h0_triedOn 5 u_701), (aI ca h0_dropped 5 u_702), (aI ca h0_heldOn 5 u_703), (aI ca h0_drops 10 u_704)] := hD
            try dsimp only at w_697
            exact J91_582 r_681 y5_2 y5_3 u_698 1 u_700 u_699 u_701 u_702 u_703 u_704 hy5_2 (⟨by decide, by decide⟩ : rg 0 1 (1 : Int32)) H locs ls (oPsub hP [1, 2, 8, 3, 4, 5, 6, 7, 9, 10, 11, 12, 0] rfl) (hD.sub [1, 2, 8, 3, 4, 5, 6, 7, 9, 10, 11, 12, 0] (by decide) rfl) hS (lv_sub hl [2, 3, 1] rfl)
      · skip
        have o_705 : rl 1 y5_1 r1_jurors := rl_nle c_674
        have h_706 : rg 0 9 y5_1 := rl_x o_705 hy5_1 i_r1_jurors (by decide) (by decide)
        have h_707 : rg 1 10 r1_jurors := rl_y o_705 hy5_1 i_r1_jurors (by decide) (by decide)
        refine lv_iload_n hx hb dX9_drawDay_14 rfl (lv_at hl 2 rfl) ?_
        refine oC_i (Wc := []) (Wr := [(h0, .inr (9, [.int h0_day, .int y5_2, .int y5_3, .int h0_trials, .int h0_triedToday, .ref h0_dents, .ref h0_drops, .ref h0_how, .ref h0_triedOn, .ref h0_dropped, .ref h0_heldOn])), (r1, .inr (5, [.int r1_jurors, .int r1_floors, .int r1_cases, .int r1_one, .int r1_dent, .int r1_seated, .ref r1_jurorName, .ref r1_floorName, .ref r1_caseName, .ref r1_pitch, .ref r1_length, .ref r1_hands, .ref r1_tune, .ref r1_dull, .ref r1_caseFloor, .ref r1_tuned])), (aI ca h0_how 5 F_h0_how), (aI ca r1_caseFloor 5 F_r1_caseFloor), (aI ca r1_tuned 40 F_r1_tuned), (aI ca r1_pitch 10 F_r1_pitch), (aI ca r1_tune 4 F_r1_tune), (aI ca h0_dents 10 f5_4), (aI ca h0_triedOn 5 F_h0_triedOn), (aI ca h0_dropped 5 F_h0_dropped), (aI ca h0_heldOn 5 F_h0_heldOn), (aI ca h0_drops 10 F_h0_drops), (aI ca r1_hands 10 F_r1_hands)]) (va_runS (As := [.int y5_0]) (rest := []) ⟨hx, hb, hml, hown, hts⟩ (s_X9_afterDraw l D ca H.size y5_0) (va_cwS 1 hts gX9_drawDay_X9_afterDraw rfl rfl rfl (by decide +kernel) ⟨Nat.le_of_ble_eq_true rfl, Nat.le_of_ble_eq_true rfl⟩) (oPS hK hP hD [] rfl (by decide)) rfl rfl hl.1 rfl (lv_room (Nat.le_of_ble_eq_true rfl)) dX9_drawDay_15 ⟨Nat.le_of_ble_eq_true rfl, Nat.le_of_ble_eq_true rfl⟩) hP hD hS hA [] [0, 1, 2, 3, 4, 5, 6, 7, 8, 9, 10, 11, 12] rfl rfl (by decide) (by decide) (fun r_708 u H locs w_709 hP hD hS => ?_)
        obtain ⟨⟩ := u
        have hP : va_P D vwCl [(h0, .inr (9, [.int h0_day, .int y5_2, .int y5_3, .int h0_trials, .int h0_triedToday, .ref h0_dents, .ref h0_drops, .ref h0_how, .ref h0_triedOn, .ref h0_dropped, .ref h0_heldOn])), (r1, .inr (5, [.int r1_jurors, .int r1_floors, .int r1_cases, .int r1_one, .int r1_dent, .int r1_seated, .ref r1_jurorName, .ref r1_floorName, .ref r1_caseName, .ref r1_pitch, .ref r1_length, .ref r1_hands, .ref r1_tune, .ref r1_dull, .ref r1_caseFloor, .ref r1_tuned])), (aI ca h0_how 5 F_h0_how), (aI ca r1_caseFloor 5 F_r1_caseFloor), (aI ca r1_tuned 40 F_r1_tuned), (aI ca r1_pitch 10 F_r1_pitch), (aI ca r1_tune 4 F_r1_tune), (aI ca h0_dents 10 f5_4), (aI ca h0_triedOn 5 F_h0_triedOn), (aI ca h0_dropped 5 F_h0_dropped), (aI ca h0_heldOn 5 F_h0_heldOn), (aI ca h0_drops 10 F_h0_drops), (aI ca r1_hands 10 F_r1_hands)] H := hP
        have hD : va_D A [(h0, .inr (9, [.int h0_day, .int y5_2, .int y5_3, .int h0_trials, .int h0_triedToday, .ref h0_dents, .ref h0_drops, .ref h0_how, .ref h0_triedOn, .ref h0_dropped, .ref h0_heldOn])), (r1, .inr (5, [.int r1_jurors, .int r1_floors, .int r1_cases, .int r1_one, .int r1_dent, .int r1_seated, .ref r1_jurorName, .ref r1_floorName, .ref r1_caseName, .ref r1_pitch, .ref r1_length, .ref r1_hands, .ref r1_tune, .ref r1_dull, .ref r1_caseFloor, .ref r1_tuned])), (aI ca h0_how 5 F_h0_how), (aI ca r1_caseFloor 5 F_r1_caseFloor), (aI ca r1_tuned 40 F_r1_tuned), (aI ca r1_pitch 10 F_r1_pitch), (aI ca r1_tune 4 F_r1_tune), (aI ca h0_dents 10 f5_4), (aI ca h0_triedOn 5 F_h0_triedOn), (aI ca h0_dropped 5 F_h0_dropped), (aI ca h0_heldOn 5 F_h0_heldOn), (aI ca h0_drops 10 F_h0_drops), (aI ca r1_hands 10 F_r1_hands)] := hD
        try dsimp only at w_709
        refine lv_istore_n (lv' := [(3, .int r_708), (0, .ref h0), (1, .ref r1), (4, .int y5_1)]) hx hb dX9_drawDay_18 rfl hl (by decide) rfl (fun ls hl => ?_)
        refine lv_aload_n hx hb dX9_drawDay_19 rfl (lv_at hl 1 rfl) ?_
        refine lv_aload_n hx hb dX9_drawDay_20 rfl (lv_at hl 2 rfl) ?_
        refine lv_iload_n hx hb dX9_drawDay_21 rfl (lv_at hl 0 rfl) ?_
        refine lv_bipush (v := 12) hx hb dX9_drawDay_22 (by decide) ?_
        refine oC_i (Wc := []) (Wr := [(h0, .inr (9, [.int h0_day, .int y5_2, .int y5_3, .int h0_trials, .int h0_triedToday, .ref h0_dents, .ref h0_drops, .ref h0_how, .ref h0_triedOn, .ref h0_dropped, .ref h0_heldOn])), (r1, .inr (5, [.int r1_jurors, .int r1_floors, .int r1_cases, .int r1_one, .int r1_dent, .int r1_seated, .ref r1_jurorName, .ref r1_floorName, .ref r1_caseName, .ref r1_pitch, .ref r1_length, .ref r1_hands, .ref r1_tune, .ref r1_dull, .ref r1_caseFloor, .ref r1_tuned])), (aI ca h0_how 5 F_h0_how), (aI ca r1_caseFloor 5 F_r1_caseFloor), (aI ca r1_tuned 40 F_r1_tuned), (aI ca r1_pitch 10 F_r1_pitch), (aI ca r1_tune 4 F_r1_tune), (aI ca h0_dents 10 f5_4), (aI ca h0_triedOn 5 F_h0_triedOn), (aI ca h0_dropped 5 F_h0_dropped), (aI ca h0_heldOn 5 F_h0_heldOn), (aI ca h0_drops 10 F_h0_drops), (aI ca r1_hands 10 F_r1_hands)]) (va_runS (As := [.int r_708, .int 12]) (rest := [.ref r1, .ref h0]) ⟨hx, hb, hml, hown, hts⟩ (s_X9_drawOf l D ca H.size r_708 12 (⟨by decide, by decide⟩ : rg 1 12 (12 : Int32))) (va_cwS 2 hts gX9_drawDay_X9_drawOf rfl rfl rfl (by decide +kernel) ⟨Nat.le_of_ble_eq_true rfl, Nat.le_of_ble_eq_true rfl⟩) (oPS hK hP hD [] rfl (by decide)) rfl rfl hl.1 rfl (lv_room (Nat.le_of_ble_eq_true rfl)) dX9_drawDay_24 ⟨Nat.le_of_ble_eq_true rfl, Nat.le_of_ble_eq_true rfl⟩) hP hD hS hA [] [0, 1, 2, 3, 4, 5, 6, 7, 8, 9, 10, 11, 12] rfl rfl (by decide) (by decide) (fun r_710 u H locs w_711 hP hD hS => ?_)
        obtain ⟨⟩ := u
        have hP : va_P D vwCl [(h0, .inr (9, [.int h0_day, .int y5_2, .int y5_3, .int h0_trials, .int h0_triedToday, .ref h0_dents, .ref h0_drops, .ref h0_how, .ref h0_triedOn, .ref h0_dropped, .ref h0_heldOn])), (r1, .inr (5, [.int r1_jurors, .int r1_floors, .int r1_cases, .int r1_one, .int r1_dent, .int r1_seated, .ref r1_jurorName, .ref r1_floorName, .ref r1_caseName, .ref r1_pitch, .ref r1_length, .ref r1_hands, .ref r1_tune, .ref r1_dull, .ref r1_caseFloor, .ref r1_tuned])), (aI ca h0_how 5 F_h0_how), (aI ca r1_caseFloor 5 F_r1_caseFloor), (aI ca r1_tuned 40 F_r1_tuned), (aI ca r1_pitch 10 F_r1_pitch), (aI ca r1_tune 4 F_r1_tune), (aI ca h0_dents 10 f5_4), (aI ca h0_triedOn 5 F_h0_triedOn), (aI ca h0_dropped 5 F_h0_dropped), (aI ca h0_heldOn 5 F_h0_heldOn), (aI ca h0_drops 10 F_h0_drops), (aI ca r1_hands 10 F_r1_hands)] H := hP
        have hD : va_D A [(h0, .inr (9, [.int h0_day, .int y5_2, .int y5_3, .int h0_trials, .int h0_triedToday, .ref h0_dents, .ref h0_drops, .ref h0_how, .ref h0_triedOn, .ref h0_dropped, .ref h0_heldOn])), (r1, .inr (5, [.int r1_jurors, .int r1_floors, .int r1_cases, .int r1_one, .int r1_dent, .int r1_seated, .ref r1_jurorName, .ref r1_floorName, .ref r1_caseName, .ref r1_pitch, .ref r1_length, .ref r1_hands, .ref r1_tune, .ref r1_dull, .ref r1_caseFloor, .ref r1_tuned])), (aI ca h0_how 5 F_h0_how), (aI ca r1_caseFloor 5 F_r1_caseFloor), (aI ca r1_tuned 40 F_r1_tuned), (aI ca r1_pitch 10 F_r1_pitch), (aI ca r1_tune 4 F_r1_tune), (aI ca h0_dents 10 f5_4), (aI ca h0_triedOn 5 F_h0_triedOn), (aI ca h0_dropped 5 F_h0_dropped), (aI ca h0_heldOn 5 F_h0_heldOn), (aI ca h0_drops 10 F_h0_drops), (aI ca r1_hands 10 F_r1_hands)] := hD
        try dsimp only at w_711
        obtain ⟨h_712, h_713⟩ := w_711
        refine lv_aload_n hx hb dX9_drawDay_27 rfl (lv_at hl 2 rfl) ?_
        refine va_get (D := D) (ci := 5) (v := .ref r1_hands) (C := RX5) (T := TX5) (N := 16) hx hb hts k2 hown hK.1 hP 1 rfl rfl 11 (by decide) k6 (fun _ h9 => h9) rfl dX9_drawDay_28 ?_
        refine lv_iload hx hb dX9_drawDay_31 (lv_at hl 3 rfl) ?_
        refine va_iald hx hb hK.1 hP 12 0 rfl rfl (rg_in h_706 (by decide) (by decide)) dX9_drawDay_33 ?_
        refine lv_topi (fun x_714 ex_714 => ?_)
        refine lv_icmp_ge (tgt := 41) hx hb dX9_drawDay_34 (by decide) (fun c_715 => ?_) (fun c_715 => ?_)
        · skip
          have o_716 : rl 0 x_714 r_710 := rl_le c_715
          have h_717 : rg (-2147483648) 11 x_714 := rl_x o_716 (rga x_714) h_712 (by decide) (by decide)
          refine lv_iconst (v := 3) hx hb dX9_drawDay_41 (by decide) ?_
          exact J42_664 r_708 3 (⟨by decide, by decide⟩ : rg 2 3 (3 : Int32)) h_707 h_706 o_705 H locs ls (oPsub hP [0, 1, 2, 3, 4, 5, 6, 7, 8, 9, 10, 11, 12] rfl) (hD.sub [0, 1, 2, 3, 4, 5, 6, 7, 8, 9, 10, 11, 12] (by decide) rfl) hS (lv_sub hl [1, 2, 0, 3] rfl)
        · skip
          have o_718 : rl 1 r_710 x_714 := rl_nle c_715
          have h_719 : rg 1 2147483647 x_714 := rl_y o_718 h_712 (rga x_714) (by decide) (by decide)
          refine lv_iconst (v := 2) hx hb dX9_drawDay_37 (by decide) ?_
          refine lv_goto (tgt := 42) hx hb dX9_drawDay_38 (by decide) ?_
          exact J42_664 r_708 2 (⟨by decide, by decide⟩ : rg 2 3 (2 : Int32)) h_707 h_706 o_705 H locs ls (oPsub hP [0, 1, 2, 3, 4, 5, 6, 7, 8, 9, 10, 11, 12] rfl) (hD.sub [0, 1, 2, 3, 4, 5, 6, 7, 8, 9, 10, 11, 12] (by decide) rfl) hS (lv_sub hl [1, 2, 0, 3] rfl)
  refine lv_iload_n hx hb dX9_drawDay_0 rfl (lv_at hl 2 rfl) ?_
  refine lv_istore_n (lv' := [(3, .int a2), (0, .ref h0), (1, .ref r1), (2, .int a2)]) hx hb dX9_drawDay_1 rfl hl (by decide) rfl (fun ls hl => ?_)
  refine lv_iconst (v := 0) hx hb dX9_drawDay_2 (by decide) ?_
  refine lv_istore (lv' := [(4, .int 0), (3, .int a2), (0, .ref h0), (1, .ref r1), (2, .int a2)]) hx hb dX9_drawDay_3 hl (by decide) rfl (fun ls hl => ?_)
  exact J5_608 11 a2 0 h0_sits h0_holds F_h0_dents trivial (⟨by decide, by decide⟩ : rg 0 10 (0 : Int32)) i_h0_sits (by have q0 := (⟨by decide, by decide⟩ : rg 0 0 (0 : Int32)).1; omega) H locs ls (oPsub hP [0, 1, 2, 3, 4, 5, 6, 7, 8, 9, 10, 11, 12] rfl) (hD.sub [0, 1, 2, 3, 4, 5, 6, 7, 8, 9, 10, 11, 12] (by decide) rfl) hS (lv_sub hl [2, 3, 1, 0] rfl)
