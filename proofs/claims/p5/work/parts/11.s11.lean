theorem dX11_agreed_0 : decode cX11_agreed 0 = .ok (.aload_n 0, 1) := by decide +kernel
theorem dX11_agreed_1 : decode cX11_agreed 1 = .ok (.getfield 83, 3) := by decide +kernel
theorem dX11_agreed_4 : decode cX11_agreed 4 = .ok (.iconst 0, 1) := by decide +kernel
theorem dX11_agreed_5 : decode cX11_agreed 5 = .ok (.iaload, 1) := by decide +kernel
theorem dX11_agreed_6 : decode cX11_agreed 6 = .ok (.ireturn, 1) := by decide +kernel
set_option maxHeartbeats 4000000 in
set_option maxRecDepth 100000 in
theorem s_X11_agreed (l : Launch) (D : va_G) (ca : Nat → ClassId) (sz : Nat) (h0 : Nat) (h0_tape : Nat) (h0_law : Nat) (h0_standing : Nat) (h0_saying : Nat) (h0_courtReader : Nat) (h0_bookReader : Nat) (h0_sentenceReader : Nat) (h0_bench : Nat) (h0_whatIf : Nat) (h0_history : Nat) (h0_images : Nat) (h0_latest : Nat) (h0_latestBook : Nat) (h0_latestRoll : Nat) (h0_rollLength : Int32) (F_h0_latest : Nat → Int32) (i_h0_rollLength : rg 0 40 h0_rollLength) : oMet l yX11_agreed wsX11_agreed ({ frames := 0, cells := 0, slots := 0, locals := 0 } : Room) [.ref h0] D ca sz [(h0, .inr (10, [.ref h0_tape, .ref h0_law, .ref h0_standing, .ref h0_saying, .ref h0_courtReader, .ref h0_bookReader, .ref h0_sentenceReader, .ref h0_bench, .ref h0_whatIf, .ref h0_history, .ref h0_images, .ref h0_latest, .ref h0_latestBook, .ref h0_latestRoll, .int h0_rollLength])), (aI ca h0_latest 7 F_h0_latest)] (oQi D (fun (r : Int32) (u : Unit) => (r = F_h0_latest (0 : Int32).toNatClampNeg)) (fun (u : Unit) => [(h0, .inr (10, [.ref h0_tape, .ref h0_law, .ref h0_standing, .ref h0_saying, .ref h0_courtReader, .ref h0_bookReader, .ref h0_sentenceReader, .ref h0_bench, .ref h0_whatIf, .ref h0_history, .ref h0_images, .ref h0_latest, .ref h0_latestBook, .ref h0_latestRoll, .int h0_rollLength])), (aI ca h0_latest 7 F_h0_latest)])) 0 0 := by
  refine oM (cc := cX11_agreed) (maxL := 1) (ret := (some .int)) (by decide) rfl (Nat.le_of_ble_eq_true rfl) [(0, .ref h0)] rfl ?_
  intro p e s m below meth c A H locs ls hx hb hr hml hts hown hlocks hin hK hP hD hA hS hl
  have hown : s.vm.findClass RX11 = some m.cls := hown
  have k1 := hts (.fieldLink RX11 83 "LidCourt" "latest" "[I") (by decide +kernel)
  have k2 : ∀ w ∈ wsX110, w ∈ wsX11_agreed := fun _ h => List.mem_cons_of_mem _ (List.mem_append_right _ h)
  refine lv_aload_n hx hb dX11_agreed_0 rfl (lv_at hl 0 rfl) ?_
  refine va_get (D := D) (ci := 10) (v := .ref h0_latest) (C := RX11) (T := TX11) (N := 15) hx hb hts k2 hown hK.1 hP 0 rfl rfl 11 (by decide) k1 (fun _ h9 => h9) rfl dX11_agreed_1 ?_
  refine lv_iconst (v := 0) hx hb dX11_agreed_4 (by decide) ?_
  refine va_iald hx hb hK.1 hP 1 0 rfl rfl (rg_in (⟨by decide, by decide⟩ : rg 0 0 (0 : Int32)) (by decide) (by decide)) dX11_agreed_5 ?_
  refine lv_topi (fun x_2 ex_2 => ?_)
  exact oE_i hx hb hr rfl hlocks hP hD hS () [0, 1] rfl (by decide) ex_2 (Nat.le_of_ble_eq_true rfl) (Nat.le_of_ble_eq_true rfl) dX11_agreed_6
theorem dX0_nearest_0 : decode cX0_nearest 0 = .ok (.iconst 0, 1) := by decide +kernel
theorem dX0_nearest_1 : decode cX0_nearest 1 = .ok (.istore_n 3, 1) := by decide +kernel
theorem dX0_nearest_2 : decode cX0_nearest 2 = .ok (.iconst 1, 1) := by decide +kernel
theorem dX0_nearest_3 : decode cX0_nearest 3 = .ok (.istore 4, 2) := by decide +kernel
theorem dX0_nearest_5 : decode cX0_nearest 5 = .ok (.iload 4, 2) := by decide +kernel
theorem dX0_nearest_7 : decode cX0_nearest 7 = .ok (.iconst 1, 1) := by decide +kernel
theorem dX0_nearest_8 : decode cX0_nearest 8 = .ok (.aload_n 1, 1) := by decide +kernel
theorem dX0_nearest_9 : decode cX0_nearest 9 = .ok (.getfield 32, 3) := by decide +kernel
theorem dX0_nearest_12 : decode cX0_nearest 12 = .ok (.ishl, 1) := by decide +kernel
theorem dX0_nearest_13 : decode cX0_nearest 13 = .ok (.if_icmp .ge 39, 3) := by decide +kernel
theorem dX0_nearest_16 : decode cX0_nearest 16 = .ok (.iload 4, 2) := by decide +kernel
theorem dX0_nearest_18 : decode cX0_nearest 18 = .ok (.invokestatic 65, 3) := by decide +kernel
theorem dX0_nearest_21 : decode cX0_nearest 21 = .ok (.iload_n 2, 1) := by decide +kernel
theorem dX0_nearest_22 : decode cX0_nearest 22 = .ok (.if_icmp .ne 24, 3) := by decide +kernel
theorem dX0_nearest_25 : decode cX0_nearest 25 = .ok (.iload_n 3, 1) := by decide +kernel
theorem dX0_nearest_26 : decode cX0_nearest 26 = .ok (.ifCond .eq 17, 3) := by decide +kernel
theorem dX0_nearest_29 : decode cX0_nearest 29 = .ok (.aload_n 0, 1) := by decide +kernel
theorem dX0_nearest_30 : decode cX0_nearest 30 = .ok (.iload 4, 2) := by decide +kernel
theorem dX0_nearest_32 : decode cX0_nearest 32 = .ok (.invokevirtual 59, 3) := by decide +kernel
theorem dX0_nearest_35 : decode cX0_nearest 35 = .ok (.aload_n 0, 1) := by decide +kernel
theorem dX0_nearest_36 : decode cX0_nearest 36 = .ok (.iload_n 3, 1) := by decide +kernel
theorem dX0_nearest_37 : decode cX0_nearest 37 = .ok (.invokevirtual 59, 3) := by decide +kernel
theorem dX0_nearest_40 : decode cX0_nearest 40 = .ok (.if_icmp .ge 6, 3) := by decide +kernel
theorem dX0_nearest_43 : decode cX0_nearest 43 = .ok (.iload 4, 2) := by decide +kernel
theorem dX0_nearest_45 : decode cX0_nearest 45 = .ok (.istore_n 3, 1) := by decide +kernel
theorem dX0_nearest_46 : decode cX0_nearest 46 = .ok (.iinc 4 1, 3) := by decide +kernel
theorem dX0_nearest_49 : decode cX0_nearest 49 = .ok (.goto (-44), 3) := by decide +kernel
theorem dX0_nearest_52 : decode cX0_nearest 52 = .ok (.iload_n 3, 1) := by decide +kernel
theorem dX0_nearest_53 : decode cX0_nearest 53 = .ok (.ireturn, 1) := by decide +kernel
set_option maxRecDepth 20000 in
theorem ggX0_nearest_J6_bitCount_0f7a4 : GoodIn wsX0_nearest wsJ6_bitCount_0f7a4 := goodIn_r _ [5, 6, 7, 8] rfl (by decide +kernel)
set_option maxRecDepth 20000 in
theorem gX0_nearest_J6_bitCount_0f7a4 : GoodIn wsX0_nearest (va_wsS RX0 65 yJ6_bitCount_0f7a4 wsJ6_bitCount_0f7a4) := goodIn_app (goodIn_of _ (by decide +kernel)) ggX0_nearest_J6_bitCount_0f7a4
set_option maxRecDepth 20000 in
theorem ggX0_nearest_X0_apart : GoodIn wsX0_nearest wsX0_apart := goodIn_r _ [13, 14, 15, 32, 33, 34, 35, 36, 37] rfl (by decide +kernel)
set_option maxRecDepth 20000 in
theorem gX0_nearest_X0_apart : GoodIn wsX0_nearest (wsV RX0 59 RX0 yX0_apart wsX0_apart) := goodIn_app (goodIn_of _ (by decide +kernel)) ggX0_nearest_X0_apart
set_option maxHeartbeats 4000000 in
set_option maxRecDepth 100000 in
theorem s_X0_nearest (l : Launch) (D : va_G) (ca : Nat → ClassId) (sz : Nat) (h0 : Nat) (r1 : Nat) (a2 : Int32) (h0_frees : Nat) (h0_low : Nat) (h0_high : Nat) (h0_letGoWeight : Nat) (h0_holdWeight : Nat) (h0_heardWith : Nat) (r1_jurors : Int32) (r1_floors : Int32) (r1_cases : Int32) (r1_one : Int32) (r1_dent : Int32) (r1_seated : Int32) (r1_jurorName : Nat) (r1_floorName : Nat) (r1_caseName : Nat) (r1_pitch : Nat) (r1_length : Nat) (r1_hands : Nat) (r1_tune : Nat) (r1_dull : Nat) (r1_caseFloor : Nat) (r1_tuned : Nat) (F_h0_high : Nat → Int32) (F_h0_low : Nat → Int32) (i_r1_jurors : rg 0 10 r1_jurors) (i_r1_floors : rg 0 4 r1_floors) (i_r1_cases : rg 0 5 r1_cases) (i_r1_seated : rg 0 1023 r1_seated) : oMet l yX0_nearest wsX0_nearest ({ frames := 1, cells := 0, slots := 0, locals := 21 } : Room) [.ref h0, .ref r1, .int a2] D ca sz [(h0, .inr (0, [.ref h0_frees, .ref h0_low, .ref h0_high, .ref h0_letGoWeight, .ref h0_holdWeight, .ref h0_heardWith])), (r1, .inr (5, [.int r1_jurors, .int r1_floors, .int r1_cases, .int r1_one, .int r1_dent, .int r1_seated, .ref r1_jurorName, .ref r1_floorName, .ref r1_caseName, .ref r1_pitch, .ref r1_length, .ref r1_hands, .ref r1_tune, .ref r1_dull, .ref r1_caseFloor, .ref r1_tuned])), (aI ca h0_high 1024 F_h0_high), (aI ca h0_low 1024 F_h0_low)] (oQi D (fun (r : Int32) (u : Unit) => (rg 0 1023 r)) (fun (u : Unit) => [(h0, .inr (0, [.ref h0_frees, .ref h0_low, .ref h0_high, .ref h0_letGoWeight, .ref h0_holdWeight, .ref h0_heardWith])), (r1, .inr (5, [.int r1_jurors, .int r1_floors, .int r1_cases, .int r1_one, .int r1_dent, .int r1_seated, .ref r1_jurorName, .ref r1_floorName, .ref r1_caseName, .ref r1_pitch, .ref r1_length, .ref r1_hands, .ref r1_tune, .ref r1_dull, .ref r1_caseFloor, .ref r1_tuned])), (aI ca h0_high 1024 F_h0_high), (aI ca h0_low 1024 F_h0_low)])) 0 0 := by
  refine oM (cc := cX0_nearest) (maxL := 5) (ret := (some .int)) (by decide) rfl (Nat.le_of_ble_eq_true rfl) [(0, .ref h0), (1, .ref r1), (2, .int a2)] rfl ?_
  intro p e s m below meth c A H locs ls hx hb hr hml hts hown hlocks hin hK hP hD hA hS hl
  have hown : s.vm.findClass RX0 = some m.cls := hown
  have k1 := hts (.fieldLink RX0 32 "LidCourt$Law" "jurors" "I") (by decide +kernel)
  have k2 : ∀ w ∈ wsX50, w ∈ wsX0_nearest := fun _ h => List.mem_cons_of_mem _ (List.mem_append_left _ (List.mem_append_right _ h))
  have J5_272 : ∀ (n : Nat) (y5_0 : Int32) (y5_1 : Int32), True → rg 0 1023 y5_0 → rg 1 1024 y5_1 → 1024 < y5_1.toInt + (n : Int) → ∀ (H : Heap) (locs : List Loc) (ls : Array Slot), va_P D vwCl [(h0, .inr (0, [.ref h0_frees, .ref h0_low, .ref h0_high, .ref h0_letGoWeight, .ref h0_holdWeight, .ref h0_heardWith])), (r1, .inr (5, [.int r1_jurors, .int r1_floors, .int r1_cases, .int r1_one, .int r1_dent, .int r1_seated, .ref r1_jurorName, .ref r1_floorName, .ref r1_caseName, .ref r1_pitch, .ref r1_length, .ref r1_hands, .ref r1_tune, .ref r1_dull, .ref r1_caseFloor, .ref r1_tuned])), (aI ca h0_high 1024 F_h0_high), (aI ca h0_low 1024 F_h0_low)] H → va_D A [(h0, .inr (0, [.ref h0_frees, .ref h0_low, .ref h0_high, .ref h0_letGoWeight, .ref h0_holdWeight, .ref h0_heardWith])), (r1, .inr (5, [.int r1_jurors, .int r1_floors, .int r1_cases, .int r1_one, .int r1_dent, .int r1_seated, .ref r1_jurorName, .ref r1_floorName, .ref r1_caseName, .ref r1_pitch, .ref r1_length, .ref r1_hands, .ref r1_tune, .ref r1_dull, .ref r1_caseFloor, .ref r1_tuned])), (aI ca h0_high 1024 F_h0_high), (aI ca h0_low 1024 F_h0_low)] → va_S A s.heap H locs → lv_has ls 5 [(0, .ref h0), (1, .ref r1), (2, .int a2), (3, .int y5_0), (4, .int y5_1)] → W p l e ({ frames := 1, cells := 0, slots := 0, locals := 21 } : Room) s m ([.ref h0, .ref r1, .int a2] : List Value).toArray below meth c H locs 0 0 (MQ below ((oQi D (fun (r : Int32) (u : Unit) => (rg 0 1023 r)) (fun (u : Unit) => [(h0, .inr (0, [.ref h0_frees, .ref h0_low, .ref h0_high, .ref h0_letGoWeight, .ref h0_holdWeight, .ref h0_heardWith])), (r1, .inr (5, [.int r1_jurors, .int r1_floors, .int r1_cases, .int r1_one, .int r1_dent, .int r1_seated, .ref r1_jurorName, .ref r1_floorName, .ref r1_caseName, .ref r1_pitch, .ref r1_length, .ref r1_hands, .ref r1_tune, .ref r1_dull, .ref r1_caseFloor, .ref r1_tuned])), (aI ca h0_high 1024 F_h0_high), (aI ca h0_low 1024 F_h0_low)])) A) ([.ref h0, .ref r1, .int a2] : List Value).toArray s 0 0 A) (F0 m 5 ls []) := by
    intro n
    induction n with
    | zero => intro y5_0 y5_1 _ hy5_0 hy5_1 hn; exact absurd hn (by have q9 := hy5_1.2; omega)
    | succ n ih =>
      intro y5_0 y5_1 _ hy5_0 hy5_1 hn H locs ls hP hD hS hl
      have J46_305 : ∀ (y46_0 : Int32), rg 0 1023 y46_0 → rg 1 1023 y5_1 → ∀ (H : Heap) (locs : List Loc) (ls : Array Slot), va_P D vwCl [(h0, .inr (0, [.ref h0_frees, .ref h0_low, .ref h0_high, .ref h0_letGoWeight, .ref h0_holdWeight, .ref h0_heardWith])), (r1, .inr (5, [.int r1_jurors, .int r1_floors, .int r1_cases, .int r1_one, .int r1_dent, .int r1_seated, .ref r1_jurorName, .ref r1_floorName, .ref r1_caseName, .ref r1_pitch, .ref r1_length, .ref r1_hands, .ref r1_tune, .ref r1_dull, .ref r1_caseFloor, .ref r1_tuned])), (aI ca h0_high 1024 F_h0_high), (aI ca h0_low 1024 F_h0_low)] H → va_D A [(h0, .inr (0, [.ref h0_frees, .ref h0_low, .ref h0_high, .ref h0_letGoWeight, .ref h0_holdWeight, .ref h0_heardWith])), (r1, .inr (5, [.int r1_jurors, .int r1_floors, .int r1_cases, .int r1_one, .int r1_dent, .int r1_seated, .ref r1_jurorName, .ref r1_floorName, .ref r1_caseName, .ref r1_pitch, .ref r1_length, .ref r1_hands, .ref r1_tune, .ref r1_dull, .ref r1_caseFloor, .ref r1_tuned])), (aI ca h0_high 1024 F_h0_high), (aI ca h0_low 1024 F_h0_low)] → va_S A s.heap H locs → lv_has ls 5 [(0, .ref h0), (1, .ref r1), (2, .int a2), (3, .int y46_0), (4, .int y5_1)] → W p l e ({ frames := 1, cells := 0, slots := 0, locals := 21 } : Room) s m ([.ref h0, .ref r1, .int a2] : List Value).toArray below meth c H locs 0 0 (MQ below ((oQi D (fun (r : Int32) (u : Unit) => (rg 0 1023 r)) (fun (u : Unit) => [(h0, .inr (0, [.ref h0_frees, .ref h0_low, .ref h0_high, .ref h0_letGoWeight, .ref h0_holdWeight, .ref h0_heardWith])), (r1, .inr (5, [.int r1_jurors, .int r1_floors, .int r1_cases, .int r1_one, .int r1_dent, .int r1_seated, .ref r1_jurorName, .ref r1_floorName, .ref r1_caseName, .ref r1_pitch, .ref r1_length, .ref r1_hands, .ref r1_tune, .ref r1_dull, .ref r1_caseFloor, .ref r1_tuned])), (aI ca h0_high 1024 F_h0_high), (aI ca h0_low 1024 F_h0_low)])) A) ([.ref h0, .ref r1, .int a2] : List Value).toArray s 0 0 A) (F0 m 46 ls []) := by
        intro y46_0 hy46_0 t46_y5_1 H locs ls hP hD hS hl
        obtain ⟨x_306, ex_306⟩ : ∃ y : Int32, y = y5_1 + 1 := ⟨_, rfl⟩
        have h_307 : rg 2 1024 x_306 := by rw [ex_306]; exact rg_add t46_y5_1 (⟨by decide, by decide⟩ : rg 1 1 (1 : Int32)) (by decide) (by decide) (by decide) (by decide)
        have l_308 : lq x_306.toInt (y5_1.toInt + 1) := lqm (by rw [ex_306]; have q := tadd t46_y5_1 (⟨by decide, by decide⟩ : rg 1 1 (1 : Int32)) (by decide) (by decide); have r1 := lqe (lqm (by decide) : lq (1 : Int32).toInt 1); omega)
        refine lv_iinc (v := x_306) (lv' := [(4, .int x_306), (0, .ref h0), (1, .ref r1), (2, .int a2), (3, .int y46_0)]) hx hb dX0_nearest_46 hl (k := 4) rfl (by rw [ex_306]; rfl) (by decide) rfl (fun ls hl => ?_)
        refine lv_goto (tgt := 5) hx hb dX0_nearest_49 (by decide) ?_
        exact ih y46_0 x_306 trivial hy46_0 (rgw (lo := 1) (hi := 1024) h_307 (by decide) (by decide)) (by have q0 := lqe l_308; omega) H locs ls (oPsub hP [0, 1, 2, 3] rfl) (hD.sub [0, 1, 2, 3] (by decide) rfl) hS (lv_sub hl [1, 2, 3, 4, 0] rfl)
      have J43_309 : ∀ (_ : Unit), rg 0 63 a2 → rg 1 1023 y5_1 → ∀ (H : Heap) (locs : List Loc) (ls : Array Slot), va_P D vwCl [(h0, .inr (0, [.ref h0_frees, .ref h0_low, .ref h0_high, .ref h0_letGoWeight, .ref h0_holdWeight, .ref h0_heardWith])), (r1, .inr (5, [.int r1_jurors, .int r1_floors, .int r1_cases, .int r1_one, .int r1_dent, .int r1_seated, .ref r1_jurorName, .ref r1_floorName, .ref r1_caseName, .ref r1_pitch, .ref r1_length, .ref r1_hands, .ref r1_tune, .ref r1_dull, .ref r1_caseFloor, .ref r1_tuned])), (aI ca h0_high 1024 F_h0_high), (aI ca h0_low 1024 F_h0_low)] H → va_D A [(h0, .inr (0, [.ref h0_frees, .ref h0_low, .ref h0_high, .ref h0_letGoWeight, .ref h0_holdWeight, .ref h0_heardWith])), (r1, .inr (5, [.int r1_jurors, .int r1_floors, .int r1_cases, .int r1_one, .int r1_dent, .int r1_seated, .ref r1_jurorName, .ref r1_floorName, .ref r1_caseName, .ref r1_pitch, .ref r1_length, .ref r1_hands, .ref r1_tune, .ref r1_dull, .ref r1_caseFloor, .ref r1_tuned])), (aI ca h0_high 1024 F_h0_high), (aI ca h0_low 1024 F_h0_low)] → va_S A s.heap H locs → lv_has ls 5 [(0, .ref h0), (1, .ref r1), (2, .int a2), (4, .int y5_1)] → W p l e ({ frames := 1, cells := 0, slots := 0, locals := 21 } : Room) s m ([.ref h0, .ref r1, .int a2] : List Value).toArray below meth c H locs 0 0 (MQ below ((oQi D (fun (r : Int32) (u : Unit) => (rg 0 1023 r)) (fun (u : Unit) => [(h0, .inr (0, [.ref h0_frees, .ref h0_low, .ref h0_high, .ref h0_letGoWeight, .ref h0_holdWeight, .ref h0_heardWith])), (r1, .inr (5, [.int r1_jurors, .int r1_floors, .int r1_cases, .int r1_one, .int r1_dent, .int r1_seated, .ref r1_jurorName, .ref r1_floorName, .ref r1_caseName, .ref r1_pitch, .ref r1_length, .ref r1_hands, .ref r1_tune, .ref r1_dull, .ref r1_caseFloor, .ref r1_tuned])), (aI ca h0_high 1024 F_h0_high), (aI ca h0_low 1024 F_h0_low)])) A) ([.ref h0, .ref r1, .int a2] : List Value).toArray s 0 0 A) (F0 m 43 ls []) := by
        intro _ t43_a2 t43_y5_1 H locs ls hP hD hS hl
        refine lv_iload hx hb dX0_nearest_43 (lv_at hl 3 rfl) ?_
        refine lv_istore_n (lv' := [(3, .int y5_1), (0, .ref h0), (1, .ref r1), (2, .int a2), (4, .int y5_1)]) hx hb dX0_nearest_45 rfl hl (by decide) rfl (fun ls hl => ?_)
        exact J46_305 y5_1 (rgw (lo := 0) (hi := 1023) t43_y5_1 (by decide) (by decide)) t43_y5_1 H locs ls (oPsub hP [0, 1, 2, 3] rfl) (hD.sub [0, 1, 2, 3] (by decide) rfl) hS (lv_sub hl [1, 2, 3, 0, 4] rfl)
      refine lv_iload hx hb dX0_nearest_5 (lv_at hl 4 rfl) ?_
      refine lv_iconst (v := 1) hx hb dX0_nearest_7 (by decide) ?_
      refine lv_aload_n hx hb dX0_nearest_8 rfl (lv_at hl 1 rfl) ?_
      refine va_get (D := D) (ci := 5) (v := .int r1_jurors) (C := RX5) (T := TX5) (N := 16) hx hb hts k2 hown hK.1 hP 1 rfl rfl 0 (by decide) k1 (fun _ h9 => h9) rfl dX0_nearest_9 ?_
      refine lv_ishl hx hb dX0_nearest_12 ?_
      refine lv_topi (fun x_310 ex_310 => ?_)
      have h_311 : rg 1 1024 x_310 := by rw [ex_310]; exact rg_shl1 i_r1_jurors (by decide) (by decide) (by decide) (by decide)
      refine lv_icmp_ge (tgt := 52) hx hb dX0_nearest_13 (by decide) (fun c_312 => ?_) (fun c_312 => ?_)
      · skip
        have o_313 : rl 0 x_310 y5_1 := rl_le c_312
        refine lv_iload_n hx hb dX0_nearest_52 rfl (lv_at hl 3 rfl) ?_
        exact oE_i hx hb hr rfl hlocks hP hD hS () [0, 1, 2, 3] rfl (by decide) hy5_0 (Nat.le_of_ble_eq_true rfl) (Nat.le_of_ble_eq_true rfl) dX0_nearest_53
      · skip
        have o_314 : rl 1 y5_1 x_310 := rl_nle c_312
        have h_315 : rg 1 1023 y5_1 := rl_x o_314 hy5_1 h_311 (by decide) (by decide)
        have h_316 : rg 2 1024 x_310 := rl_y o_314 hy5_1 h_311 (by decide) (by decide)
        refine lv_iload hx hb dX0_nearest_16 (lv_at hl 4 rfl) ?_
        refine oC_i (Wc := []) (Wr := [(h0, .inr (0, [.ref h0_frees, .ref h0_low, .ref h0_high, .ref h0_letGoWeight, .ref h0_holdWeight, .ref h0_heardWith])), (r1, .inr (5, [.int r1_jurors, .int r1_floors, .int r1_cases, .int r1_one, .int r1_dent, .int r1_seated, .ref r1_jurorName, .ref r1_floorName, .ref r1_caseName, .ref r1_pitch, .ref r1_length, .ref r1_hands, .ref r1_tune, .ref r1_dull, .ref r1_caseFloor, .ref r1_tuned])), (aI ca h0_high 1024 F_h0_high), (aI ca h0_low 1024 F_h0_low)]) (va_runS (As := [.int y5_1]) (rest := []) ⟨hx, hb, hml, hown, hts⟩ (s_J6_bitCount_0f7a4 l D ca H.size y5_1) (va_cwS 1 hts gX0_nearest_J6_bitCount_0f7a4 rfl rfl rfl (by decide +kernel) ⟨Nat.le_of_ble_eq_true rfl, Nat.le_of_ble_eq_true rfl⟩) (oPS hK hP hD [] rfl (by decide)) rfl rfl hl.1 rfl (lv_room (Nat.le_of_ble_eq_true rfl)) dX0_nearest_18 ⟨Nat.le_of_ble_eq_true rfl, Nat.le_of_ble_eq_true rfl⟩) hP hD hS hA [] [0, 1, 2, 3] rfl rfl (by decide) (by decide) (fun r_317 u H locs w_318 hP hD hS => ?_)
        obtain ⟨⟩ := u
        have hP : va_P D vwCl [(h0, .inr (0, [.ref h0_frees, .ref h0_low, .ref h0_high, .ref h0_letGoWeight, .ref h0_holdWeight, .ref h0_heardWith])), (r1, .inr (5, [.int r1_jurors, .int r1_floors, .int r1_cases, .int r1_one, .int r1_dent, .int r1_seated, .ref r1_jurorName, .ref r1_floorName, .ref r1_caseName, .ref r1_pitch, .ref r1_length, .ref r1_hands, .ref r1_tune, .ref r1_dull, .ref r1_caseFloor, .ref r1_tuned])), (aI ca h0_high 1024 F_h0_high), (aI ca h0_low 1024 F_h0_low)] H := hP
        have hD : va_D A [(h0, .inr (0, [.ref h0_frees, .ref h0_low, .ref h0_high, .ref h0_letGoWeight, .ref h0_holdWeight, .ref h0_heardWith])), (r1, .inr (5, [.int r1_jurors, .int r1_floors, .int r1_cases, .int r1_one, .int r1_dent, .int r1_seated, .ref r1_jurorName, .ref r1_floorName, .ref r1_caseName, .ref r1_pitch, .ref r1_length, .ref r1_hands, .ref r1_tune, .ref r1_dull, .ref r1_caseFloor, .ref r1_tuned])), (aI ca h0_high 1024 F_h0_high), (aI ca h0_low 1024 F_h0_low)] := hD
        try dsimp only at w_318
        have h_319 := w_318
        refine lv_iload_n hx hb dX0_nearest_21 rfl (lv_at hl 2 rfl) ?_
        refine lv_icmp_ne (tgt := 46) hx hb dX0_nearest_22 (by decide) (fun c_320 => ?_) (fun c_320 => ?_)
        · skip
          exact J46_305 y5_0 hy5_0 h_315 H locs ls (oPsub hP [0, 1, 2, 3] rfl) (hD.sub [0, 1, 2, 3] (by decide) rfl) hS (lv_sub hl [0, 1, 2, 3, 4] rfl)
        · skip
          have o_321 : rl 0 r_317 a2 := rl_eq c_320
          have h_322 : rg 0 2147483647 a2 := rl_y o_321 h_319 (rga a2) (by decide) (by decide)
          have o_323 : rl 0 a2 r_317 := rl_eq c_320.symm
          have h_324 : rg 0 63 a2 := rl_x o_323 h_322 h_319 (by decide) (by decide)
          refine lv_iload_n hx hb dX0_nearest_25 rfl (lv_at hl 3 rfl) ?_
          refine lv_if_eq (tgt := 43) hx hb dX0_nearest_26 (by decide) (fun c_325 => ?_) (fun c_325 => ?_)
          · skip
            have o_326 : rl 0 y5_0 0 := rl_eq c_325
            have h_327 : rg 0 0 y5_0 := rl_x o_326 hy5_0 (⟨by decide, by decide⟩ : rg 0 0 (0 : Int32)) (by decide) (by decide)
            have o_328 : rl 0 0 y5_0 := rl_eq c_325.symm
            exact J43_309 () h_324 h_315 H locs ls (oPsub hP [0, 1, 2, 3] rfl) (hD.sub [0, 1, 2, 3] (by decide) rfl) hS (lv_sub hl [0, 1, 2, 4] rfl)
          · skip
            have h_329 : rg 1 1023 y5_0 := cl_nlo c_325 hy5_0 (show (0 : Int32).toInt = 0 by decide) (by decide) (by decide)
            refine lv_aload_n hx hb dX0_nearest_29 rfl (lv_at hl 0 rfl) ?_
            refine lv_iload hx hb dX0_nearest_30 (lv_at hl 4 rfl) ?_
            refine oC_i (Wc := [(h0, .inr (0, [.ref h0_frees, .ref h0_low, .ref h0_high, .ref h0_letGoWeight, .ref h0_holdWeight, .ref h0_heardWith])), (aI ca h0_high 1024 F_h0_high), (aI ca h0_low 1024 F_h0_low)]) (Wr := [(r1, .inr (5, [.int r1_jurors, .int r1_floors, .int r1_cases, .int r1_one, .int r1_dent, .int r1_seated, .ref r1_jurorName, .ref r1_floorName, .ref r1_caseName, .ref r1_pitch, .ref r1_length, .ref r1_hands, .ref r1_tune, .ref r1_dull, .ref r1_caseFloor, .ref r1_tuned]))]) (va_runV (As := [.int y5_1]) (rest := []) ⟨hx, hb, hml, hown, hts⟩ (s_X0_apart l D ca H.size h0 y5_1 h0_frees h0_low h0_high h0_letGoWeight h0_holdWeight h0_heardWith F_h0_high F_h0_low (rgw (lo := 0) (hi := 1023) h_315 (by decide) (by decide))) (cwV 1 hts gX0_nearest_X0_apart rfl rfl rfl (by decide +kernel) ⟨Nat.le_of_ble_eq_true rfl, Nat.le_of_ble_eq_true rfl⟩) (oPV (C := RX0) hK hP hD [0, 2, 3] rfl (by decide) 0 rfl (ci := 0) rfl rfl) rfl rfl hl.1 rfl (lv_room (Nat.le_of_ble_eq_true rfl)) dX0_nearest_32 ⟨Nat.le_of_ble_eq_true rfl, Nat.le_of_ble_eq_true rfl⟩) hP hD hS hA [0, 2, 3] [1] rfl rfl (by decide) (by decide) (fun r_330 u H locs w_331 hP hD hS => ?_)
            obtain ⟨⟩ := u
            have hP : va_P D vwCl [(r1, .inr (5, [.int r1_jurors, .int r1_floors, .int r1_cases, .int r1_one, .int r1_dent, .int r1_seated, .ref r1_jurorName, .ref r1_floorName, .ref r1_caseName, .ref r1_pitch, .ref r1_length, .ref r1_hands, .ref r1_tune, .ref r1_dull, .ref r1_caseFloor, .ref r1_tuned])), (h0, .inr (0, [.ref h0_frees, .ref h0_low, .ref h0_high, .ref h0_letGoWeight, .ref h0_holdWeight, .ref h0_heardWith])), (aI ca h0_high 1024 F_h0_high), (aI ca h0_low 1024 F_h0_low)] H := hP
            have hD : va_D A [(r1, .inr (5, [.int r1_jurors, .int r1_floors, .int r1_cases, .int r1_one, .int r1_dent, .int r1_seated, .ref r1_jurorName, .ref r1_floorName, .ref r1_caseName, .ref r1_pitch, .ref r1_length, .ref r1_hands, .ref r1_tune, .ref r1_dull, .ref r1_caseFloor, .ref r1_tuned])), (h0, .inr (0, [.ref h0_frees, .ref h0_low, .ref h0_high, .ref h0_letGoWeight, .ref h0_holdWeight, .ref h0_heardWith])), (aI ca h0_high 1024 F_h0_high), (aI ca h0_low 1024 F_h0_low)] := hD
            try dsimp only at w_331
            refine lv_aload_n hx hb dX0_nearest_35 rfl (lv_at hl 0 rfl) ?_
            refine lv_iload_n hx hb dX0_nearest_36 rfl (lv_at hl 3 rfl) ?_
            refine oC_i (Wc := [(h0, .inr (0, [.ref h0_frees, .ref h0_low, .ref h0_high, .ref h0_letGoWeight, .ref h0_holdWeight, .ref h0_heardWith])), (aI ca h0_high 1024 F_h0_high), (aI ca h0_low 1024 F_h0_low)]) (Wr := [(r1, .inr (5, [.int r1_jurors, .int r1_floors, .int r1_cases, .int r1_one, .int r1_dent, .int r1_seated, .ref r1_jurorName, .ref r1_floorName, .ref r1_caseName, .ref r1_pitch, .ref r1_length, .ref r1_hands, .ref r1_tune, .ref r1_dull, .ref r1_caseFloor, .ref r1_tuned]))]) (va_runV (As := [.int y5_0]) (rest := [.int r_330]) ⟨hx, hb, hml, hown, hts⟩ (s_X0_apart l D ca H.size h0 y5_0 h0_frees h0_low h0_high h0_letGoWeight h0_holdWeight h0_heardWith F_h0_high F_h0_low (rgw (lo := 0) (hi := 1023) h_329 (by decide) (by decide))) (cwV 1 hts gX0_nearest_X0_apart rfl rfl rfl (by decide +kernel) ⟨Nat.le_of_ble_eq_true rfl, Nat.le_of_ble_eq_true rfl⟩) (oPV (C := RX0) hK hP hD [1, 2, 3] rfl (by decide) 0 rfl (ci := 0) rfl rfl) rfl rfl hl.1 rfl (lv_room (Nat.le_of_ble_eq_true rfl)) dX0_nearest_37 ⟨Nat.le_of_ble_eq_true rfl, Nat.le_of_ble_eq_true rfl⟩) hP hD hS hA [1, 2, 3] [0] rfl rfl (by decide) (by decide) (fun r_332 u H locs w_333 hP hD hS => ?_)
            obtain ⟨⟩ := u
            have hP : va_P D vwCl [(r1, .inr (5, [.int r1_jurors, .int r1_floors, .int r1_cases, .int r1_one, .int r1_dent, .int r1_seated, .ref r1_jurorName, .ref r1_floorName, .ref r1_caseName, .ref r1_pitch, .ref r1_length, .ref r1_hands, .ref r1_tune, .ref r1_dull, .ref r1_caseFloor, .ref r1_tuned])), (h0, .inr (0, [.ref h0_frees, .ref h0_low, .ref h0_high, .ref h0_letGoWeight, .ref h0_holdWeight, .ref h0_heardWith])), (aI ca h0_high 1024 F_h0_high), (aI ca h0_low 1024 F_h0_low)] H := hP
            have hD : va_D A [(r1, .inr (5, [.int r1_jurors, .int r1_floors, .int r1_cases, .int r1_one, .int r1_dent, .int r1_seated, .ref r1_jurorName, .ref r1_floorName, .ref r1_caseName, .ref r1_pitch, .ref r1_length, .ref r1_hands, .ref r1_tune, .ref r1_dull, .ref r1_caseFloor, .ref r1_tuned])), (h0, .inr (0, [.ref h0_frees, .ref h0_low, .ref h0_high, .ref h0_letGoWeight, .ref h0_holdWeight, .ref h0_heardWith])), (aI ca h0_high 1024 F_h0_high), (aI ca h0_low 1024 F_h0_low)] := hD
            try dsimp only at w_333
            refine lv_icmp_ge (tgt := 46) hx hb dX0_nearest_40 (by decide) (fun c_334 => ?_) (fun c_334 => ?_)
            · skip
              have o_335 : rl 0 r_332 r_330 := rl_le c_334
              exact J46_305 y5_0 (rgw (lo := 0) (hi := 1023) h_329 (by decide) (by decide)) h_315 H locs ls (oPsub hP [1, 0, 2, 3] rfl) (hD.sub [1, 0, 2, 3] (by decide) rfl) hS (lv_sub hl [0, 1, 2, 3, 4] rfl)
            · skip
              have o_336 : rl 1 r_330 r_332 := rl_nle c_334
              have h_337 : rg (-2147483648) 2147483646 r_330 := rl_x o_336 (rga r_330) (rga r_332) (by decide) (by decide)
              have h_338 : rg (-2147483647) 2147483647 r_332 := rl_y o_336 (rga r_330) (rga r_332) (by decide) (by decide)
              exact J43_309 () h_324 h_315 H locs ls (oPsub hP [1, 0, 2, 3] rfl) (hD.sub [1, 0, 2, 3] (by decide) rfl) hS (lv_sub hl [0, 1, 2, 4] rfl)
  refine lv_iconst (v := 0) hx hb dX0_nearest_0 (by decide) ?_
  refine lv_istore_n (lv' := [(3, .int 0), (0, .ref h0), (1, .ref r1), (2, .int a2)]) hx hb dX0_nearest_1 rfl hl (by decide) rfl (fun ls hl => ?_)
  refine lv_iconst (v := 1) hx hb dX0_nearest_2 (by decide) ?_
  refine lv_istore (lv' := [(4, .int 1), (3, .int 0), (0, .ref h0), (1, .ref r1), (2, .int a2)]) hx hb dX0_nearest_3 hl (by decide) rfl (fun ls hl => ?_)
  exact J5_272 1024 0 1 trivial (⟨by decide, by decide⟩ : rg 0 1023 (0 : Int32)) (⟨by decide, by decide⟩ : rg 1 1024 (1 : Int32)) (by have q0 := (⟨by decide, by decide⟩ : rg 1 1 (1 : Int32)).1; omega) H locs ls (oPsub hP [0, 1, 2, 3] rfl) (hD.sub [0, 1, 2, 3] (by decide) rfl) hS (lv_sub hl [2, 3, 4, 1, 0] rfl)
theorem dX11_jury_0 : decode cX11_jury 0 = .ok (.aload_n 0, 1) := by decide +kernel
theorem dX11_jury_1 : decode cX11_jury 1 = .ok (.iload_n 1, 1) := by decide +kernel
theorem dX11_jury_2 : decode cX11_jury 2 = .ok (.invokevirtual 164, 3) := by decide +kernel
theorem dX11_jury_5 : decode cX11_jury 5 = .ok (.ifCond .eq 19, 3) := by decide +kernel
theorem dX11_jury_8 : decode cX11_jury 8 = .ok (.iload_n 2, 1) := by decide +kernel
theorem dX11_jury_9 : decode cX11_jury 9 = .ok (.iconst 1, 1) := by decide +kernel
theorem dX11_jury_10 : decode cX11_jury 10 = .ok (.if_icmp .lt 14, 3) := by decide +kernel
theorem dX11_jury_13 : decode cX11_jury 13 = .ok (.iload_n 2, 1) := by decide +kernel
theorem dX11_jury_14 : decode cX11_jury 14 = .ok (.aload_n 0, 1) := by decide +kernel
theorem dX11_jury_15 : decode cX11_jury 15 = .ok (.getfield 19, 3) := by decide +kernel
theorem dX11_jury_18 : decode cX11_jury 18 = .ok (.getfield 240, 3) := by decide +kernel
theorem dX11_jury_21 : decode cX11_jury 21 = .ok (.if_icmp .le 5, 3) := by decide +kernel
theorem dX11_jury_24 : decode cX11_jury 24 = .ok (.iconst (-1), 1) := by decide +kernel
theorem dX11_jury_25 : decode cX11_jury 25 = .ok (.ireturn, 1) := by decide +kernel
theorem dX11_jury_26 : decode cX11_jury 26 = .ok (.aload_n 0, 1) := by decide +kernel
theorem dX11_jury_27 : decode cX11_jury 27 = .ok (.getfield 63, 3) := by decide +kernel
theorem dX11_jury_30 : decode cX11_jury 30 = .ok (.aload_n 0, 1) := by decide +kernel
theorem dX11_jury_31 : decode cX11_jury 31 = .ok (.getfield 19, 3) := by decide +kernel
theorem dX11_jury_34 : decode cX11_jury 34 = .ok (.aload_n 0, 1) := by decide +kernel
theorem dX11_jury_35 : decode cX11_jury 35 = .ok (.getfield 26, 3) := by decide +kernel
theorem dX11_jury_38 : decode cX11_jury 38 = .ok (.aload_n 0, 1) := by decide +kernel
theorem dX11_jury_39 : decode cX11_jury 39 = .ok (.getfield 19, 3) := by decide +kernel
theorem dX11_jury_42 : decode cX11_jury 42 = .ok (.getfield 167, 3) := by decide +kernel
theorem dX11_jury_45 : decode cX11_jury 45 = .ok (.iload_n 1, 1) := by decide +kernel
theorem dX11_jury_46 : decode cX11_jury 46 = .ok (.iaload, 1) := by decide +kernel
theorem dX11_jury_47 : decode cX11_jury 47 = .ok (.invokevirtual 246, 3) := by decide +kernel
theorem dX11_jury_50 : decode cX11_jury 50 = .ok (.aload_n 0, 1) := by decide +kernel
theorem dX11_jury_51 : decode cX11_jury 51 = .ok (.getfield 83, 3) := by decide +kernel
theorem dX11_jury_54 : decode cX11_jury 54 = .ok (.iconst 1, 1) := by decide +kernel
theorem dX11_jury_55 : decode cX11_jury 55 = .ok (.aload_n 0, 1) := by decide +kernel
theorem dX11_jury_56 : decode cX11_jury 56 = .ok (.getfield 63, 3) := by decide +kernel
theorem dX11_jury_59 : decode cX11_jury 59 = .ok (.aload_n 0, 1) := by decide +kernel
theorem dX11_jury_60 : decode cX11_jury 60 = .ok (.getfield 19, 3) := by decide +kernel
theorem dX11_jury_63 : decode cX11_jury 63 = .ok (.iload_n 2, 1) := by decide +kernel
theorem dX11_jury_64 : decode cX11_jury 64 = .ok (.invokevirtual 259, 3) := by decide +kernel
theorem dX11_jury_67 : decode cX11_jury 67 = .ok (.iastore, 1) := by decide +kernel
theorem dX11_jury_68 : decode cX11_jury 68 = .ok (.aload_n 0, 1) := by decide +kernel
theorem dX11_jury_69 : decode cX11_jury 69 = .ok (.getfield 63, 3) := by decide +kernel
theorem dX11_jury_72 : decode cX11_jury 72 = .ok (.aload_n 0, 1) := by decide +kernel
theorem dX11_jury_73 : decode cX11_jury 73 = .ok (.getfield 83, 3) := by decide +kernel
theorem dX11_jury_76 : decode cX11_jury 76 = .ok (.iconst 1, 1) := by decide +kernel
theorem dX11_jury_77 : decode cX11_jury 77 = .ok (.iaload, 1) := by decide +kernel
theorem dX11_jury_78 : decode cX11_jury 78 = .ok (.invokevirtual 263, 3) := by decide +kernel
theorem dX11_jury_81 : decode cX11_jury 81 = .ok (.ireturn, 1) := by decide +kernel
set_option maxRecDepth 20000 in
theorem ggX11_jury_X11_isCase : GoodIn wsX11_jury wsX11_isCase := goodIn_r _ [11, 1, 12, 64, 65, 66, 67, 68, 69, 70, 71, 72, 73, 74, 75, 76, 77, 78, 79, 80, 81, 82, 83, 84, 85, 86, 87, 88, 89, 90, 91, 92, 93, 94] rfl (by decide +kernel)
set_option maxRecDepth 20000 in
theorem gX11_jury_X11_isCase : GoodIn wsX11_jury (wsV RX11 164 RX11 yX11_isCase wsX11_isCase) := goodIn_app (goodIn_of _ (by decide +kernel)) ggX11_jury_X11_isCase
set_option maxRecDepth 20000 in
theorem ggX11_jury_X0_measure : GoodIn wsX11_jury wsX0_measure := goodIn_r _ [17, 18, 19, 20, 21, 22, 23, 24, 25, 26, 27, 28, 29, 30, 31, 32, 33, 34, 35, 36, 37, 38, 39, 40, 41, 42, 43, 44, 45, 46, 47, 48, 79, 80, 81, 82, 83, 84, 85, 86, 87, 88, 89, 90, 91, 92, 93, 94, 95, 96, 97, 98, 99, 100, 101, 102, 103, 104, 105, 106, 107, 108, 109, 110, 111] rfl (by decide +kernel)
set_option maxRecDepth 20000 in
theorem gX11_jury_X0_measure : GoodIn wsX11_jury (wsV RX11 246 RX0 yX0_measure wsX0_measure) := goodIn_app (goodIn_of _ (by decide +kernel)) ggX11_jury_X0_measure
set_option maxRecDepth 20000 in
theorem ggX11_jury_X0_nearest : GoodIn wsX11_jury wsX0_nearest := goodIn_r _ [52, 18, 53, 54, 30, 55, 56, 57, 58, 59, 60, 61, 16, 62, 20, 19, 79, 80, 81, 82, 83, 84, 85, 86, 87, 88, 89, 90, 91, 92, 93, 94, 95, 96, 97, 98, 99, 100] rfl (by decide +kernel)
set_option maxRecDepth 20000 in
theorem gX11_jury_X0_nearest : GoodIn wsX11_jury (wsV RX11 259 RX0 yX0_nearest wsX0_nearest) := goodIn_app (goodIn_of _ (by decide +kernel)) ggX11_jury_X0_nearest
set_option maxRecDepth 20000 in
theorem ggX11_jury_X0_apart : GoodIn wsX11_jury wsX0_apart := goodIn_r _ [62, 20, 19, 95, 96, 97, 98, 99, 100] rfl (by decide +kernel)
set_option maxRecDepth 20000 in
theorem gX11_jury_X0_apart : GoodIn wsX11_jury (wsV RX11 263 RX0 yX0_apart wsX0_apart) := goodIn_app (goodIn_of _ (by decide +kernel)) ggX11_jury_X0_apart
set_option maxHeartbeats 4000000 in
set_option maxRecDepth 100000 in
theorem s_X11_jury (l : Launch) (D : va_G) (ca : Nat → ClassId) (sz : Nat) (h0 : Nat) (a1 : Int32) (a2 : Int32) (h0_tape : Nat) (h0_law : Nat) (h0_standing : Nat) (h0_saying : Nat) (h0_courtReader : Nat) (h0_bookReader : Nat) (h0_sentenceReader : Nat) (h0_bench : Nat) (h0_whatIf : Nat) (h0_history : Nat) (h0_images : Nat) (h0_latest : Nat) (h0_latestBook : Nat) (h0_latestRoll : Nat) (h0_rollLength : Int32) (h0_law_jurors : Int32) (h0_law_floors : Int32) (h0_law_cases : Int32) (h0_law_one : Int32) (h0_law_dent : Int32) (h0_law_seated : Int32) (h0_law_jurorName : Nat) (h0_law_floorName : Nat) (h0_law_caseName : Nat) (h0_law_pitch : Nat) (h0_law_length : Nat) (h0_law_hands : Nat) (h0_law_tune : Nat) (h0_law_dull : Nat) (h0_law_caseFloor : Nat) (h0_law_tuned : Nat) (F_h0_law_caseFloor : Nat → Int32) (h0_bench_frees : Nat) (h0_bench_low : Nat) (h0_bench_high : Nat) (h0_bench_letGoWeight : Nat) (h0_bench_holdWeight : Nat) (h0_bench_heardWith : Nat) (h0_standing_day : Int32) (h0_standing_sits : Int32) (h0_standing_holds : Int32) (h0_standing_trials : Int32) (h0_standing_triedToday : Int32) (h0_standing_dents : Nat) (h0_standing_drops : Nat) (h0_standing_how : Nat) (h0_standing_triedOn : Nat) (h0_standing_dropped : Nat) (h0_standing_heldOn : Nat) (F_h0_law_tuned : Nat → Int32) (F_h0_law_pitch : Nat → Int32) (F_h0_law_tune : Nat → Int32) (F_h0_standing_dents : Nat → Int32) (F_h0_bench_low : Nat → Int32) (F_h0_bench_high : Nat → Int32) (F_h0_latest : Nat → Int32) (i_h0_rollLength : rg 0 40 h0_rollLength) (i_h0_law_jurors : rg 0 10 h0_law_jurors) (i_h0_law_floors : rg 0 4 h0_law_floors) (i_h0_law_cases : rg 0 5 h0_law_cases) (i_h0_law_seated : rg 0 1023 h0_law_seated) (i_h0_standing_sits : rg 0 1023 h0_standing_sits) (i_h0_standing_triedToday : rg 0 1 h0_standing_triedToday) (s_h0_law_caseFloor_0 : sg 0 5 0 3 F_h0_law_caseFloor) : oMet l yX11_jury wsX11_jury ({ frames := 3, cells := 0, slots := 0, locals := 72 } : Room) [.ref h0, .int a1, .int a2] D ca sz [(h0, .inr (10, [.ref h0_tape, .ref h0_law, .ref h0_standing, .ref h0_saying, .ref h0_courtReader, .ref h0_bookReader, .ref h0_sentenceReader, .ref h0_bench, .ref h0_whatIf, .ref h0_history, .ref h0_images, .ref h0_latest, .ref h0_latestBook, .ref h0_latestRoll, .int h0_rollLength])), (h0_law, .inr (5, [.int h0_law_jurors, .int h0_law_floors, .int h0_law_cases, .int h0_law_one, .int h0_law_dent, .int h0_law_seated, .ref h0_law_jurorName, .ref h0_law_floorName, .ref h0_law_caseName, .ref h0_law_pitch, .ref h0_law_length, .ref h0_law_hands, .ref h0_law_tune, .ref h0_law_dull, .ref h0_law_caseFloor, .ref h0_law_tuned])), (aI ca h0_law_caseFloor 5 F_h0_law_caseFloor), (h0_bench, .inr (0, [.ref h0_bench_frees, .ref h0_bench_low, .ref h0_bench_high, .ref h0_bench_letGoWeight, .ref h0_bench_holdWeight, .ref h0_bench_heardWith])), (h0_standing, .inr (9, [.int h0_standing_day, .int h0_standing_sits, .int h0_standing_holds, .int h0_standing_trials, .int h0_standing_triedToday, .ref h0_standing_dents, .ref h0_standing_drops, .ref h0_standing_how, .ref h0_standing_triedOn, .ref h0_standing_dropped, .ref h0_standing_heldOn])), (aI ca h0_law_tuned 40 F_h0_law_tuned), (aI ca h0_law_pitch 10 F_h0_law_pitch), (aI ca h0_law_tune 4 F_h0_law_tune), (aI ca h0_standing_dents 10 F_h0_standing_dents), (aI ca h0_bench_low 1024 F_h0_bench_low), (aI ca h0_bench_high 1024 F_h0_bench_high), (aI ca h0_latest 7 F_h0_latest)] (oQi D (fun (r : Int32) (u : (Nat → Int32) × (Nat → Int32) × (Nat → Int32)) => (eqs 2 7 u.2.2 F_h0_latest) ∧ (eqs 0 1 u.2.2 F_h0_latest)) (fun (u : (Nat → Int32) × (Nat → Int32) × (Nat → Int32)) => [(h0, .inr (10, [.ref h0_tape, .ref h0_law, .ref h0_standing, .ref h0_saying, .ref h0_courtReader, .ref h0_bookReader, .ref h0_sentenceReader, .ref h0_bench, .ref h0_whatIf, .ref h0_history, .ref h0_images, .ref h0_latest, .ref h0_latestBook, .ref h0_latestRoll, .int h0_rollLength])), (h0_law, .inr (5, [.int h0_law_jurors, .int h0_law_floors, .int h0_law_cases, .int h0_law_one, .int h0_law_dent, .int h0_law_seated, .ref h0_law_jurorName, .ref h0_law_floorName, .ref h0_law_caseName, .ref h0_law_pitch, .ref h0_law_length, .ref h0_law_hands, .ref h0_law_tune, .ref h0_law_dull, .ref h0_law_caseFloor, .ref h0_law_tuned])), (aI ca h0_law_caseFloor 5 F_h0_law_caseFloor), (h0_bench, .inr (0, [.ref h0_bench_frees, .ref h0_bench_low, .ref h0_bench_high, .ref h0_bench_letGoWeight, .ref h0_bench_holdWeight, .ref h0_bench_heardWith])), (h0_standing, .inr (9, [.int h0_standing_day, .int h0_standing_sits, .int h0_standing_holds, .int h0_standing_trials, .int h0_standing_triedToday, .ref h0_standing_dents, .ref h0_standing_drops, .ref h0_standing_how, .ref h0_standing_triedOn, .ref h0_standing_dropped, .ref h0_standing_heldOn])), (aI ca h0_law_tuned 40 F_h0_law_tuned), (aI ca h0_law_pitch 10 F_h0_law_pitch), (aI ca h0_law_tune 4 F_h0_law_tune), (aI ca h0_standing_dents 10 F_h0_standing_dents), (aI ca h0_bench_low 1024 u.1), (aI ca h0_bench_high 1024 u.2.1), (aI ca h0_latest 7 u.2.2)])) 0 0 := by
  refine oM (cc := cX11_jury) (maxL := 3) (ret := (some .int)) (by decide) rfl (Nat.le_of_ble_eq_true rfl) [(0, .ref h0), (1, .int a1), (2, .int a2)] rfl ?_
  intro p e s m below meth c A H locs ls hx hb hr hml hts hown hlocks hin hK hP hD hA hS hl
  have hown : s.vm.findClass RX11 = some m.cls := hown
  have k1 := hts (.fieldLink RX11 19 "LidCourt" "law" "LLidCourt$Law;") (by decide +kernel)
  have k2 : ∀ w ∈ wsX110, w ∈ wsX11_jury := fun _ h => List.mem_cons_of_mem _ (List.mem_append_left _ (List.mem_append_left _ (List.mem_append_left _ (List.mem_append_right _ h))))
  have k3 := hts (.fieldLink RX11 240 "LidCourt$Law" "jurors" "I") (by decide +kernel)
  have k4 : ∀ w ∈ wsX50, w ∈ wsX11_jury := fun _ h => List.mem_cons_of_mem _ (List.mem_append_left _ (List.mem_append_left _ (List.mem_append_right _ h)))
  have k5 := hts (.fieldLink RX11 63 "LidCourt" "bench" "LLidCourt$Bench;") (by decide +kernel)
  have k6 := hts (.fieldLink RX11 26 "LidCourt" "standing" "LLidCourt$Standing;") (by decide +kernel)
  have k7 := hts (.fieldLink RX11 167 "LidCourt$Law" "caseFloor" "[I") (by decide +kernel)
  have k8 := hts (.fieldLink RX11 83 "LidCourt" "latest" "[I") (by decide +kernel)
  refine lv_aload_n hx hb dX11_jury_0 rfl (lv_at hl 0 rfl) ?_
  refine lv_iload_n hx hb dX11_jury_1 rfl (lv_at hl 1 rfl) ?_
  refine oC_i (Wc := [(h0, .inr (10, [.ref h0_tape, .ref h0_law, .ref h0_standing, .ref h0_saying, .ref h0_courtReader, .ref h0_bookReader, .ref h0_sentenceReader, .ref h0_bench, .ref h0_whatIf, .ref h0_history, .ref h0_images, .ref h0_latest, .ref h0_latestBook, .ref h0_latestRoll, .int h0_rollLength])), (h0_law, .inr (5, [.int h0_law_jurors, .int h0_law_floors, .int h0_law_cases, .int h0_law_one, .int h0_law_dent, .int h0_law_seated, .ref h0_law_jurorName, .ref h0_law_floorName, .ref h0_law_caseName, .ref h0_law_pitch, .ref h0_law_length, .ref h0_law_hands, .ref h0_law_tune, .ref h0_law_dull, .ref h0_law_caseFloor, .ref h0_law_tuned]))]) (Wr := [(aI ca h0_law_caseFloor 5 F_h0_law_caseFloor), (h0_bench, .inr (0, [.ref h0_bench_frees, .ref h0_bench_low, .ref h0_bench_high, .ref h0_bench_letGoWeight, .ref h0_bench_holdWeight, .ref h0_bench_heardWith])), (h0_standing, .inr (9, [.int h0_standing_day, .int h0_standing_sits, .int h0_standing_holds, .int h0_standing_trials, .int h0_standing_triedToday, .ref h0_standing_dents, .ref h0_standing_drops, .ref h0_standing_how, .ref h0_standing_triedOn, .ref h0_standing_dropped, .ref h0_standing_heldOn])), (aI ca h0_law_tuned 40 F_h0_law_tuned), (aI ca h0_law_pitch 10 F_h0_law_pitch), (aI ca h0_law_tune 4 F_h0_law_tune), (aI ca h0_standing_dents 10 F_h0_standing_dents), (aI ca h0_bench_low 1024 F_h0_bench_low), (aI ca h0_bench_high 1024 F_h0_bench_high), (aI ca h0_latest 7 F_h0_latest)]) (va_runV (As := [.int a1]) (rest := []) ⟨hx, hb, hml, hown, hts⟩ (s_X11_isCase l D ca H.size h0 a1 h0_tape h0_law h0_standing h0_saying h0_courtReader h0_bookReader h0_sentenceReader h0_bench h0_whatIf h0_history h0_images h0_latest h0_latestBook h0_latestRoll h0_rollLength h0_law_jurors h0_law_floors h0_law_cases h0_law_one h0_law_dent h0_law_seated h0_law_jurorName h0_law_floorName h0_law_caseName h0_law_pitch h0_law_length h0_law_hands h0_law_tune h0_law_dull h0_law_caseFloor h0_law_tuned i_h0_rollLength i_h0_law_jurors i_h0_law_floors i_h0_law_cases i_h0_law_seated) (cwV 1 hts gX11_jury_X11_isCase rfl rfl rfl (by decide +kernel) ⟨Nat.le_of_ble_eq_true rfl, Nat.le_of_ble_eq_true rfl⟩) (oPV (C := RX11) hK hP hD [0, 1] rfl (by decide) 0 rfl (ci := 10) rfl rfl) rfl rfl hl.1 rfl (lv_room (Nat.le_of_ble_eq_true rfl)) dX11_jury_2 ⟨Nat.le_of_ble_eq_true rfl, Nat.le_of_ble_eq_true rfl⟩) hP hD hS hA [0, 1] [2, 3, 4, 5, 6, 7, 8, 9, 10, 11] rfl rfl (by decide) (by decide) (fun r_39 u H locs w_40 hP hD hS => ?_)
  obtain ⟨⟩ := u
  have hP : va_P D vwCl [(aI ca h0_law_caseFloor 5 F_h0_law_caseFloor), (h0_bench, .inr (0, [.ref h0_bench_frees, .ref h0_bench_low, .ref h0_bench_high, .ref h0_bench_letGoWeight, .ref h0_bench_holdWeight, .ref h0_bench_heardWith])), (h0_standing, .inr (9, [.int h0_standing_day, .int h0_standing_sits, .int h0_standing_holds, .int h0_standing_trials, .int h0_standing_triedToday, .ref h0_standing_dents, .ref h0_standing_drops, .ref h0_standing_how, .ref h0_standing_triedOn, .ref h0_standing_dropped, .ref h0_standing_heldOn])), (aI ca h0_law_tuned 40 F_h0_law_tuned), (aI ca h0_law_pitch 10 F_h0_law_pitch), (aI ca h0_law_tune 4 F_h0_law_tune), (aI ca h0_standing_dents 10 F_h0_standing_dents), (aI ca h0_bench_low 1024 F_h0_bench_low), (aI ca h0_bench_high 1024 F_h0_bench_high), (aI ca h0_latest 7 F_h0_latest), (h0, .inr (10, [.ref h0_tape, .ref h0_law, .ref h0_standing, .ref h0_saying, .ref h0_courtReader, .ref h0_bookReader, .ref h0_sentenceReader, .ref h0_bench, .ref h0_whatIf, .ref h0_history, .ref h0_images, .ref h0_latest, .ref h0_latestBook, .ref h0_latestRoll, .int h0_rollLength])), (h0_law, .inr (5, [.int h0_law_jurors, .int h0_law_floors, .int h0_law_cases, .int h0_law_one, .int h0_law_dent, .int h0_law_seated, .ref h0_law_jurorName, .ref h0_law_floorName, .ref h0_law_caseName, .ref h0_law_pitch, .ref h0_law_length, .ref h0_law_hands, .ref h0_law_tune, .ref h0_law_dull, .ref h0_law_caseFloor, .ref h0_law_tuned]))] H := hP
  have hD : va_D A [(aI ca h0_law_caseFloor 5 F_h0_law_caseFloor), (h0_bench, .inr (0, [.ref h0_bench_frees, .ref h0_bench_low, .ref h0_bench_high, .ref h0_bench_letGoWeight, .ref h0_bench_holdWeight, .ref h0_bench_heardWith])), (h0_standing, .inr (9, [.int h0_standing_day, .int h0_standing_sits, .int h0_standing_holds, .int h0_standing_trials, .int h0_standing_triedToday, .ref h0_standing_dents, .ref h0_standing_drops, .ref h0_standing_how, .ref h0_standing_triedOn, .ref h0_standing_dropped, .ref h0_standing_heldOn])), (aI ca h0_law_tuned 40 F_h0_law_tuned), (aI ca h0_law_pitch 10 F_h0_law_pitch), (aI ca h0_law_tune 4 F_h0_law_tune), (aI ca h0_standing_dents 10 F_h0_standing_dents), (aI ca h0_bench_low 1024 F_h0_bench_low), (aI ca h0_bench_high 1024 F_h0_bench_high), (aI ca h0_latest 7 F_h0_latest), (h0, .inr (10, [.ref h0_tape, .ref h0_law, .ref h0_standing, .ref h0_saying, .ref h0_courtReader, .ref h0_bookReader, .ref h0_sentenceReader, .ref h0_bench, .ref h0_whatIf, .ref h0_history, .ref h0_images, .ref h0_latest, .ref h0_latestBook, .ref h0_latestRoll, .int h0_rollLength])), (h0_law, .inr (5, [.int h0_law_jurors, .int h0_law_floors, .int h0_law_cases, .int h0_law_one, .int h0_law_dent, .int h0_law_seated, .ref h0_law_jurorName, .ref h0_law_floorName, .ref h0_law_caseName, .ref h0_law_pitch, .ref h0_law_length, .ref h0_law_hands, .ref h0_law_tune, .ref h0_law_dull, .ref h0_law_caseFloor, .ref h0_law_tuned]))] := hD
  try dsimp only at w_40
  rcases w_40 with h_41 | ⟨h_42, h_43, h_44, h_45⟩
  · skip
    subst h_41
    refine lv_if_eq (tgt := 24) hx hb dX11_jury_5 (by decide) (fun _ => ?_) (fun c => absurd (by decide) c)
    refine lv_iconst (v := (-1)) hx hb dX11_jury_24 (by decide) ?_
    exact oE_i hx hb hr rfl hlocks hP hD hS (F_h0_bench_low, F_h0_bench_high, F_h0_latest) [10, 11, 0, 1, 2, 3, 4, 5, 6, 7, 8, 9] rfl (by decide) ⟨(eqs_w (a' := 2) (b' := 7) (eqs_rf (a := 0) (b := 7) F_h0_latest) (by decide) (by decide)), (eqs_w (a' := 0) (b' := 1) (eqs_rf (a := 0) (b := 7) F_h0_latest) (by decide) (by decide))⟩ (Nat.le_of_ble_eq_true rfl) (Nat.le_of_ble_eq_true rfl) dX11_jury_25
  · skip
    subst h_42
    refine lv_if_eq (tgt := 24) hx hb dX11_jury_5 (by decide) (fun c => absurd c (by decide)) (fun _ => ?_)
    refine lv_iload_n hx hb dX11_jury_8 rfl (lv_at hl 2 rfl) ?_
    refine lv_iconst (v := 1) hx hb dX11_jury_9 (by decide) ?_
    refine lv_icmp_lt (tgt := 24) hx hb dX11_jury_10 (by decide) (fun c_46 => ?_) (fun c_46 => ?_)
    · skip
      have o_47 : rl 1 a2 1 := rl_lt c_46
      have h_48 : rg (-2147483648) 0 a2 := rl_x o_47 (rga a2) (⟨by decide, by decide⟩ : rg 1 1 (1 : Int32)) (by decide) (by decide)
      refine lv_iconst (v := (-1)) hx hb dX11_jury_24 (by decide) ?_
      exact oE_i hx hb hr rfl hlocks hP hD hS (F_h0_bench_low, F_h0_bench_high, F_h0_latest) [10, 11, 0, 1, 2, 3, 4, 5, 6, 7, 8, 9] rfl (by decide) ⟨(eqs_w (a' := 2) (b' := 7) (eqs_rf (a := 0) (b := 7) F_h0_latest) (by decide) (by decide)), (eqs_w (a' := 0) (b' := 1) (eqs_rf (a := 0) (b := 7) F_h0_latest) (by decide) (by decide))⟩ (Nat.le_of_ble_eq_true rfl) (Nat.le_of_ble_eq_true rfl) dX11_jury_25
    · skip
      have o_49 : rl 0 1 a2 := rl_nlt c_46
      have h_50 : rg 1 2147483647 a2 := rl_y o_49 (⟨by decide, by decide⟩ : rg 1 1 (1 : Int32)) (rga a2) (by decide) (by decide)
      refine lv_iload_n hx hb dX11_jury_13 rfl (lv_at hl 2 rfl) ?_
      refine lv_aload_n hx hb dX11_jury_14 rfl (lv_at hl 0 rfl) ?_
      refine va_get (D := D) (ci := 10) (v := .ref h0_law) (C := RX11) (T := TX11) (N := 15) hx hb hts k2 hown hK.1 hP 10 rfl rfl 1 (by decide) k1 (fun _ h9 => h9) rfl dX11_jury_15 ?_
      refine va_get (D := D) (ci := 5) (v := .int h0_law_jurors) (C := RX5) (T := TX5) (N := 16) hx hb hts k4 hown hK.1 hP 11 rfl rfl 0 (by decide) k3 (fun _ h9 => h9) rfl dX11_jury_18 ?_
      refine lv_icmp_le (tgt := 26) hx hb dX11_jury_21 (by decide) (fun c_51 => ?_) (fun c_51 => ?_)
      · skip
        have o_52 : rl 0 a2 h0_law_jurors := rl_le c_51
        have h_53 : rg 1 10 a2 := rl_x o_52 h_50 i_h0_law_jurors (by decide) (by decide)
        have h_54 : rg 1 10 h0_law_jurors := rl_y o_52 h_50 i_h0_law_jurors (by decide) (by decide)
        refine lv_aload_n hx hb dX11_jury_26 rfl (lv_at hl 0 rfl) ?_
        refine va_get (D := D) (ci := 10) (v := .ref h0_bench) (C := RX11) (T := TX11) (N := 15) hx hb hts k2 hown hK.1 hP 10 rfl rfl 7 (by decide) k5 (fun _ h9 => h9) rfl dX11_jury_27 ?_
        refine lv_aload_n hx hb dX11_jury_30 rfl (lv_at hl 0 rfl) ?_
        refine va_get (D := D) (ci := 10) (v := .ref h0_law) (C := RX11) (T := TX11) (N := 15) hx hb hts k2 hown hK.1 hP 10 rfl rfl 1 (by decide) k1 (fun _ h9 => h9) rfl dX11_jury_31 ?_
        refine lv_aload_n hx hb dX11_jury_34 rfl (lv_at hl 0 rfl) ?_
        refine va_get (D := D) (ci := 10) (v := .ref h0_standing) (C := RX11) (T := TX11) (N := 15) hx hb hts k2 hown hK.1 hP 10 rfl rfl 2 (by decide) k6 (fun _ h9 => h9) rfl dX11_jury_35 ?_
        refine lv_aload_n hx hb dX11_jury_38 rfl (lv_at hl 0 rfl) ?_
        refine va_get (D := D) (ci := 10) (v := .ref h0_law) (C := RX11) (T := TX11) (N := 15) hx hb hts k2 hown hK.1 hP 10 rfl rfl 1 (by decide) k1 (fun _ h9 => h9) rfl dX11_jury_39 ?_
        refine va_get (D := D) (ci := 5) (v := .ref h0_law_caseFloor) (C := RX5) (T := TX5) (N := 16) hx hb hts k4 hown hK.1 hP 11 rfl rfl 14 (by decide) k7 (fun _ h9 => h9) rfl dX11_jury_42 ?_
        refine lv_iload_n hx hb dX11_jury_45 rfl (lv_at hl 1 rfl) ?_
        refine va_iald hx hb hK.1 hP 0 0 rfl rfl (rg_in h_43 (by decide) (by decide)) dX11_jury_46 ?_
        refine lv_topi (fun x_55 ex_55 => ?_)
        have h_56 : rg 0 3 x_55 := by rw [ex_55]; exact sg_at s_h0_law_caseFloor_0 h_43 (by decide) (by decide) (by decide)
        refine oC_v (Wc := [(h0_bench, .inr (0, [.ref h0_bench_frees, .ref h0_bench_low, .ref h0_bench_high, .ref h0_bench_letGoWeight, .ref h0_bench_holdWeight, .ref h0_bench_heardWith])), (h0_law, .inr (5, [.int h0_law_jurors, .int h0_law_floors, .int h0_law_cases, .int h0_law_one, .int h0_law_dent, .int h0_law_seated, .ref h0_law_jurorName, .ref h0_law_floorName, .ref h0_law_caseName, .ref h0_law_pitch, .ref h0_law_length, .ref h0_law_hands, .ref h0_law_tune, .ref h0_law_dull, .ref h0_law_caseFloor, .ref h0_law_tuned])), (h0_standing, .inr (9, [.int h0_standing_day, .int h0_standing_sits, .int h0_standing_holds, .int h0_standing_trials, .int h0_standing_triedToday, .ref h0_standing_dents, .ref h0_standing_drops, .ref h0_standing_how, .ref h0_standing_triedOn, .ref h0_standing_dropped, .ref h0_standing_heldOn])), (aI ca h0_law_tuned 40 F_h0_law_tuned), (aI ca h0_law_pitch 10 F_h0_law_pitch), (aI ca h0_law_tune 4 F_h0_law_tune), (aI ca h0_standing_dents 10 F_h0_standing_dents), (aI ca h0_bench_low 1024 F_h0_bench_low), (aI ca h0_bench_high 1024 F_h0_bench_high)]) (Wr := [(aI ca h0_law_caseFloor 5 F_h0_law_caseFloor), (aI ca h0_latest 7 F_h0_latest), (h0, .inr (10, [.ref h0_tape, .ref h0_law, .ref h0_standing, .ref h0_saying, .ref h0_courtReader, .ref h0_bookReader, .ref h0_sentenceReader, .ref h0_bench, .ref h0_whatIf, .ref h0_history, .ref h0_images, .ref h0_latest, .ref h0_latestBook, .ref h0_latestRoll, .int h0_rollLength]))]) (va_runV (As := [.ref h0_law, .ref h0_standing, .int x_55]) (rest := []) ⟨hx, hb, hml, hown, hts⟩ (s_X0_measure l D ca H.size h0_bench h0_law h0_standing x_55 h0_bench_frees h0_bench_low h0_bench_high h0_bench_letGoWeight h0_bench_holdWeight h0_bench_heardWith h0_law_jurors h0_law_floors h0_law_cases h0_law_one h0_law_dent h0_law_seated h0_law_jurorName h0_law_floorName h0_law_caseName h0_law_pitch h0_law_length h0_law_hands h0_law_tune h0_law_dull h0_law_caseFloor h0_law_tuned h0_standing_day h0_standing_sits h0_standing_holds h0_standing_trials h0_standing_triedToday h0_standing_dents h0_standing_drops h0_standing_how h0_standing_triedOn h0_standing_dropped h0_standing_heldOn F_h0_law_tuned F_h0_law_pitch F_h0_law_tune F_h0_standing_dents F_h0_bench_low F_h0_bench_high h_56 (rgw (lo := 0) (hi := 10) h_54 (by decide) (by decide)) i_h0_law_floors (rgw (lo := 0) (hi := 5) h_44 (by decide) (by decide)) i_h0_law_seated i_h0_standing_sits i_h0_standing_triedToday) (cwV 3 hts gX11_jury_X0_measure rfl rfl rfl (by decide +kernel) ⟨Nat.le_of_ble_eq_true rfl, Nat.le_of_ble_eq_true rfl⟩) (oPV (C := RX0) hK hP hD [1, 11, 2, 3, 4, 5, 6, 7, 8] rfl (by decide) 0 rfl (ci := 0) rfl rfl) rfl rfl hl.1 rfl (lv_room (Nat.le_of_ble_eq_true rfl)) dX11_jury_47 ⟨Nat.le_of_ble_eq_true rfl, Nat.le_of_ble_eq_true rfl⟩) hP hD hS hA [1, 11, 2, 3, 4, 5, 6, 7, 8] [0, 9, 10] rfl rfl (by decide) (by decide) (fun u H locs w_58 hP hD hS => ?_)
        obtain ⟨u_59, u_60⟩ := u
        have hP : va_P D vwCl [(aI ca h0_law_caseFloor 5 F_h0_law_caseFloor), (aI ca h0_latest 7 F_h0_latest), (h0, .inr (10, [.ref h0_tape, .ref h0_law, .ref h0_standing, .ref h0_saying, .ref h0_courtReader, .ref h0_bookReader, .ref h0_sentenceReader, .ref h0_bench, .ref h0_whatIf, .ref h0_history, .ref h0_images, .ref h0_latest, .ref h0_latestBook, .ref h0_latestRoll, .int h0_rollLength])), (h0_bench, .inr (0, [.ref h0_bench_frees, .ref h0_bench_low, .ref h0_bench_high, .ref h0_bench_letGoWeight, .ref h0_bench_holdWeight, .ref h0_bench_heardWith])), (h0_law, .inr (5, [.int h0_law_jurors, .int h0_law_floors, .int h0_law_cases, .int h0_law_one, .int h0_law_dent, .int h0_law_seated, .ref h0_law_jurorName, .ref h0_law_floorName, .ref h0_law_caseName, .ref h0_law_pitch, .ref h0_law_length, .ref h0_law_hands, .ref h0_law_tune, .ref h0_law_dull, .ref h0_law_caseFloor, .ref h0_law_tuned])), (h0_standing, .inr (9, [.int h0_standing_day, .int h0_standing_sits, .int h0_standing_holds, .int h0_standing_trials, .int h0_standing_triedToday, .ref h0_standing_dents, .ref h0_standing_drops, .ref h0_standing_how, .ref h0_standing_triedOn, .ref h0_standing_dropped, .ref h0_standing_heldOn])), (aI ca h0_law_tuned 40 F_h0_law_tuned), (aI ca h0_law_pitch 10 F_h0_law_pitch), (aI ca h0_law_tune 4 F_h0_law_tune), (aI ca h0_standing_dents 10 F_h0_standing_dents), (aI ca h0_bench_low 1024 u_59), (aI ca h0_bench_high 1024 u_60)] H := hP
        have hD : va_D A [(aI ca h0_law_caseFloor 5 F_h0_law_caseFloor), (aI ca h0_latest 7 F_h0_latest), (h0, .inr (10, [.ref h0_tape, .ref h0_law, .ref h0_standing, .ref h0_saying, .ref h0_courtReader, .ref h0_bookReader, .ref h0_sentenceReader, .ref h0_bench, .ref h0_whatIf, .ref h0_history, .ref h0_images, .ref h0_latest, .ref h0_latestBook, .ref h0_latestRoll, .int h0_rollLength])), (h0_bench, .inr (0, [.ref h0_bench_frees, .ref h0_bench_low, .ref h0_bench_high, .ref h0_bench_letGoWeight, .ref h0_bench_holdWeight, .ref h0_bench_heardWith])), (h0_law, .inr (5, [.int h0_law_jurors, .int h0_law_floors, .int h0_law_cases, .int h0_law_one, .int h0_law_dent, .int h0_law_seated, .ref h0_law_jurorName, .ref h0_law_floorName, .ref h0_law_caseName, .ref h0_law_pitch, .ref h0_law_length, .ref h0_law_hands, .ref h0_law_tune, .ref h0_law_dull, .ref h0_law_caseFloor, .ref h0_law_tuned])), (h0_standing, .inr (9, [.int h0_standing_day, .int h0_standing_sits, .int h0_standing_holds, .int h0_standing_trials, .int h0_standing_triedToday, .ref h0_standing_dents, .ref h0_standing_drops, .ref h0_standing_how, .ref h0_standing_triedOn, .ref h0_standing_dropped, .ref h0_standing_heldOn])), (aI ca h0_law_tuned 40 F_h0_law_tuned), (aI ca h0_law_pitch 10 F_h0_law_pitch), (aI ca h0_law_tune 4 F_h0_law_tune), (aI ca h0_standing_dents 10 F_h0_standing_dents), (aI ca h0_bench_low 1024 u_59), (aI ca h0_bench_high 1024 u_60)] := hD
        try dsimp only at w_58
        obtain ⟨h_61, h_62⟩ := w_58
        have q_63 : eqs 0 1 u_59 F_h0_bench_low := eqs_tr h_61 (eqs_rf (a := 0) (b := 1024) F_h0_bench_low) (by decide) (by decide) (by decide) (by decide)
        have q_64 : eqs 0 1 u_60 F_h0_bench_high := eqs_tr h_62 (eqs_rf (a := 0) (b := 1024) F_h0_bench_high) (by decide) (by decide) (by decide) (by decide)
        refine lv_aload_n hx hb dX11_jury_50 rfl (lv_at hl 0 rfl) ?_
        refine va_get (D := D) (ci := 10) (v := .ref h0_latest) (C := RX11) (T := TX11) (N := 15) hx hb hts k2 hown hK.1 hP 2 rfl rfl 11 (by decide) k8 (fun _ h9 => h9) rfl dX11_jury_51 ?_
        refine lv_iconst (v := 1) hx hb dX11_jury_54 (by decide) ?_
        refine lv_aload_n hx hb dX11_jury_55 rfl (lv_at hl 0 rfl) ?_
        refine va_get (D := D) (ci := 10) (v := .ref h0_bench) (C := RX11) (T := TX11) (N := 15) hx hb hts k2 hown hK.1 hP 2 rfl rfl 7 (by decide) k5 (fun _ h9 => h9) rfl dX11_jury_56 ?_
        refine lv_aload_n hx hb dX11_jury_59 rfl (lv_at hl 0 rfl) ?_
        refine va_get (D := D) (ci := 10) (v := .ref h0_law) (C := RX11) (T := TX11) (N := 15) hx hb hts k2 hown hK.1 hP 2 rfl rfl 1 (by decide) k1 (fun _ h9 => h9) rfl dX11_jury_60 ?_
        refine lv_iload_n hx hb dX11_jury_63 rfl (lv_at hl 2 rfl) ?_
        refine oC_i (Wc := [(h0_bench, .inr (0, [.ref h0_bench_frees, .ref h0_bench_low, .ref h0_bench_high, .ref h0_bench_letGoWeight, .ref h0_bench_holdWeight, .ref h0_bench_heardWith])), (h0_law, .inr (5, [.int h0_law_jurors, .int h0_law_floors, .int h0_law_cases, .int h0_law_one, .int h0_law_dent, .int h0_law_seated, .ref h0_law_jurorName, .ref h0_law_floorName, .ref h0_law_caseName, .ref h0_law_pitch, .ref h0_law_length, .ref h0_law_hands, .ref h0_law_tune, .ref h0_law_dull, .ref h0_law_caseFloor, .ref h0_law_tuned])), (aI ca h0_bench_high 1024 u_60), (aI ca h0_bench_low 1024 u_59)]) (Wr := [(aI ca h0_law_caseFloor 5 F_h0_law_caseFloor), (aI ca h0_latest 7 F_h0_latest), (h0, .inr (10, [.ref h0_tape, .ref h0_law, .ref h0_standing, .ref h0_saying, .ref h0_courtReader, .ref h0_bookReader, .ref h0_sentenceReader, .ref h0_bench, .ref h0_whatIf, .ref h0_history, .ref h0_images, .ref h0_latest, .ref h0_latestBook, .ref h0_latestRoll, .int h0_rollLength])), (h0_standing, .inr (9, [.int h0_standing_day, .int h0_standing_sits, .int h0_standing_holds, .int h0_standing_trials, .int h0_standing_triedToday, .ref h0_standing_dents, .ref h0_standing_drops, .ref h0_standing_how, .ref h0_standing_triedOn, .ref h0_standing_dropped, .ref h0_standing_heldOn])), (aI ca h0_law_tuned 40 F_h0_law_tuned), (aI ca h0_law_pitch 10 F_h0_law_pitch), (aI ca h0_law_tune 4 F_h0_law_tune), (aI ca h0_standing_dents 10 F_h0_standing_dents)]) (va_runV (As := [.ref h0_law, .int a2]) (rest := [.int 1, .ref h0_latest]) ⟨hx, hb, hml, hown, hts⟩ (s_X0_nearest l D ca H.size h0_bench h0_law a2 h0_bench_frees h0_bench_low h0_bench_high h0_bench_letGoWeight h0_bench_holdWeight h0_bench_heardWith h0_law_jurors h0_law_floors h0_law_cases h0_law_one h0_law_dent h0_law_seated h0_law_jurorName h0_law_floorName h0_law_caseName h0_law_pitch h0_law_length h0_law_hands h0_law_tune h0_law_dull h0_law_caseFloor h0_law_tuned u_60 u_59 (rgw (lo := 0) (hi := 10) h_54 (by decide) (by decide)) i_h0_law_floors (rgw (lo := 0) (hi := 5) h_44 (by decide) (by decide)) i_h0_law_seated) (cwV 2 hts gX11_jury_X0_nearest rfl rfl rfl (by decide +kernel) ⟨Nat.le_of_ble_eq_true rfl, Nat.le_of_ble_eq_true rfl⟩) (oPV (C := RX0) hK hP hD [3, 4, 11, 10] rfl (by decide) 0 rfl (ci := 0) rfl rfl) rfl rfl hl.1 rfl (lv_room (Nat.le_of_ble_eq_true rfl)) dX11_jury_64 ⟨Nat.le_of_ble_eq_true rfl, Nat.le_of_ble_eq_true rfl⟩) hP hD hS hA [3, 4, 11, 10] [0, 1, 2, 5, 6, 7, 8, 9] rfl rfl (by decide) (by decide) (fun r_65 u H locs w_66 hP hD hS => ?_)
        obtain ⟨⟩ := u
        have hP : va_P D vwCl [(aI ca h0_law_caseFloor 5 F_h0_law_caseFloor), (aI ca h0_latest 7 F_h0_latest), (h0, .inr (10, [.ref h0_tape, .ref h0_law, .ref h0_standing, .ref h0_saying, .ref h0_courtReader, .ref h0_bookReader, .ref h0_sentenceReader, .ref h0_bench, .ref h0_whatIf, .ref h0_history, .ref h0_images, .ref h0_latest, .ref h0_latestBook, .ref h0_latestRoll, .int h0_rollLength])), (h0_standing, .inr (9, [.int h0_standing_day, .int h0_standing_sits, .int h0_standing_holds, .int h0_standing_trials, .int h0_standing_triedToday, .ref h0_standing_dents, .ref h0_standing_drops, .ref h0_standing_how, .ref h0_standing_triedOn, .ref h0_standing_dropped, .ref h0_standing_heldOn])), (aI ca h0_law_tuned 40 F_h0_law_tuned), (aI ca h0_law_pitch 10 F_h0_law_pitch), (aI ca h0_law_tune 4 F_h0_law_tune), (aI ca h0_standing_dents 10 F_h0_standing_dents), (h0_bench, .inr (0, [.ref h0_bench_frees, .ref h0_bench_low, .ref h0_bench_high, .ref h0_bench_letGoWeight, .ref h0_bench_holdWeight, .ref h0_bench_heardWith])), (h0_law, .inr (5, [.int h0_law_jurors, .int h0_law_floors, .int h0_law_cases, .int h0_law_one, .int h0_law_dent, .int h0_law_seated, .ref h0_law_jurorName, .ref h0_law_floorName, .ref h0_law_caseName, .ref h0_law_pitch, .ref h0_law_length, .ref h0_law_hands, .ref h0_law_tune, .ref h0_law_dull, .ref h0_law_caseFloor, .ref h0_law_tuned])), (aI ca h0_bench_high 1024 u_60), (aI ca h0_bench_low 1024 u_59)] H := hP
        have hD : va_D A [(aI ca h0_law_caseFloor 5 F_h0_law_caseFloor), (aI ca h0_latest 7 F_h0_latest), (h0, .inr (10, [.ref h0_tape, .ref h0_law, .ref h0_standing, .ref h0_saying, .ref h0_courtReader, .ref h0_bookReader, .ref h0_sentenceReader, .ref h0_bench, .ref h0_whatIf, .ref h0_history, .ref h0_images, .ref h0_latest, .ref h0_latestBook, .ref h0_latestRoll, .int h0_rollLength])), (h0_standing, .inr (9, [.int h0_standing_day, .int h0_standing_sits, .int h0_standing_holds, .int h0_standing_trials, .int h0_standing_triedToday, .ref h0_standing_dents, .ref h0_standing_drops, .ref h0_standing_how, .ref h0_standing_triedOn, .ref h0_standing_dropped, .ref h0_standing_heldOn])), (aI ca h0_law_tuned 40 F_h0_law_tuned), (aI ca h0_law_pitch 10 F_h0_law_pitch), (aI ca h0_law_tune 4 F_h0_law_tune), (aI ca h0_standing_dents 10 F_h0_standing_dents), (h0_bench, .inr (0, [.ref h0_bench_frees, .ref h0_bench_low, .ref h0_bench_high, .ref h0_bench_letGoWeight, .ref h0_bench_holdWeight, .ref h0_bench_heardWith])), (h0_law, .inr (5, [.int h0_law_jurors, .int h0_law_floors, .int h0_law_cases, .int h0_law_one, .int h0_law_dent, .int h0_law_seated, .ref h0_law_jurorName, .ref h0_law_floorName, .ref h0_law_caseName, .ref h0_law_pitch, .ref h0_law_length, .ref h0_law_hands, .ref h0_law_tune, .ref h0_law_dull, .ref h0_law_caseFloor, .ref h0_law_tuned])), (aI ca h0_bench_high 1024 u_60), (aI ca h0_bench_low 1024 u_59)] := hD
        try dsimp only at w_66
        have h_67 := w_66
        refine va_iast hx hb hK.1 hP hD hS 1 0 rfl rfl (rg_in (⟨by decide, by decide⟩ : rg 1 1 (1 : Int32)) (by decide) (by decide)) dX11_jury_67 (fun H locs hP hD hS => ?_)
        obtain ⟨g_68, eg_68⟩ : ∃ y : Nat → Int32, y = upd F_h0_latest (1 : Int32).toNatClampNeg (r_65 : Int32) := ⟨_, rfl⟩
        rw [← eg_68] at hP hD
        have s_69 : sg 1 2 0 1023 g_68 := sg_one eg_68 h_67
        have q_70 : eqs 2 7 g_68 F_h0_latest := eqs_out (eqs_rf (a := 0) (b := 7) F_h0_latest) eg_68 (⟨by decide, by decide⟩ : rg 1 1 (1 : Int32)) (by decide) (by decide) (by decide) (by decide)
        have q_71 : eqs 0 1 g_68 F_h0_latest := eqs_out (eqs_rf (a := 0) (b := 7) F_h0_latest) eg_68 (⟨by decide, by decide⟩ : rg 1 1 (1 : Int32)) (by decide) (by decide) (by decide) (by decide)
        have hP : va_P D vwCl [(aI ca h0_law_caseFloor 5 F_h0_law_caseFloor), (aI ca h0_latest 7 g_68), (h0, .inr (10, [.ref h0_tape, .ref h0_law, .ref h0_standing, .ref h0_saying, .ref h0_courtReader, .ref h0_bookReader, .ref h0_sentenceReader, .ref h0_bench, .ref h0_whatIf, .ref h0_history, .ref h0_images, .ref h0_latest, .ref h0_latestBook, .ref h0_latestRoll, .int h0_rollLength])), (h0_standing, .inr (9, [.int h0_standing_day, .int h0_standing_sits, .int h0_standing_holds, .int h0_standing_trials, .int h0_standing_triedToday, .ref h0_standing_dents, .ref h0_standing_drops, .ref h0_standing_how, .ref h0_standing_triedOn, .ref h0_standing_dropped, .ref h0_standing_heldOn])), (aI ca h0_law_tuned 40 F_h0_law_tuned), (aI ca h0_law_pitch 10 F_h0_law_pitch), (aI ca h0_law_tune 4 F_h0_law_tune), (aI ca h0_standing_dents 10 F_h0_standing_dents), (h0_bench, .inr (0, [.ref h0_bench_frees, .ref h0_bench_low, .ref h0_bench_high, .ref h0_bench_letGoWeight, .ref h0_bench_holdWeight, .ref h0_bench_heardWith])), (h0_law, .inr (5, [.int h0_law_jurors, .int h0_law_floors, .int h0_law_cases, .int h0_law_one, .int h0_law_dent, .int h0_law_seated, .ref h0_law_jurorName, .ref h0_law_floorName, .ref h0_law_caseName, .ref h0_law_pitch, .ref h0_law_length, .ref h0_law_hands, .ref h0_law_tune, .ref h0_law_dull, .ref h0_law_caseFloor, .ref h0_law_tuned])), (aI ca h0_bench_high 1024 u_60), (aI ca h0_bench_low 1024 u_59)] H := hP
        have hD : va_D A [(aI ca h0_law_caseFloor 5 F_h0_law_caseFloor), (aI ca h0_latest 7 g_68), (h0, .inr (10, [.ref h0_tape, .ref h0_law, .ref h0_standing, .ref h0_saying, .ref h0_courtReader, .ref h0_bookReader, .ref h0_sentenceReader, .ref h0_bench, .ref h0_whatIf, .ref h0_history, .ref h0_images, .ref h0_latest, .ref h0_latestBook, .ref h0_latestRoll, .int h0_rollLength])), (h0_standing, .inr (9, [.int h0_standing_day, .int h0_standing_sits, .int h0_standing_holds, .int h0_standing_trials, .int h0_standing_triedToday, .ref h0_standing_dents, .ref h0_standing_drops, .ref h0_standing_how, .ref h0_standing_triedOn, .ref h0_standing_dropped, .ref h0_standing_heldOn])), (aI ca h0_law_tuned 40 F_h0_law_tuned), (aI ca h0_law_pitch 10 F_h0_law_pitch), (aI ca h0_law_tune 4 F_h0_law_tune), (aI ca h0_standing_dents 10 F_h0_standing_dents), (h0_bench, .inr (0, [.ref h0_bench_frees, .ref h0_bench_low, .ref h0_bench_high, .ref h0_bench_letGoWeight, .ref h0_bench_holdWeight, .ref h0_bench_heardWith])), (h0_law, .inr (5, [.int h0_law_jurors, .int h0_law_floors, .int h0_law_cases, .int h0_law_one, .int h0_law_dent, .int h0_law_seated, .ref h0_law_jurorName, .ref h0_law_floorName, .ref h0_law_caseName, .ref h0_law_pitch, .ref h0_law_length, .ref h0_law_hands, .ref h0_law_tune, .ref h0_law_dull, .ref h0_law_caseFloor, .ref h0_law_tuned])), (aI ca h0_bench_high 1024 u_60), (aI ca h0_bench_low 1024 u_59)] := hD
        refine lv_aload_n hx hb dX11_jury_68 rfl (lv_at hl 0 rfl) ?_
        refine va_get (D := D) (ci := 10) (v := .ref h0_bench) (C := RX11) (T := TX11) (N := 15) hx hb hts k2 hown hK.1 hP 2 rfl rfl 7 (by decide) k5 (fun _ h9 => h9) rfl dX11_jury_69 ?_
        refine lv_aload_n hx hb dX11_jury_72 rfl (lv_at hl 0 rfl) ?_
        refine va_get (D := D) (ci := 10) (v := .ref h0_latest) (C := RX11) (T := TX11) (N := 15) hx hb hts k2 hown hK.1 hP 2 rfl rfl 11 (by decide) k8 (fun _ h9 => h9) rfl dX11_jury_73 ?_
        refine lv_iconst (v := 1) hx hb dX11_jury_76 (by decide) ?_
        refine va_iald hx hb hK.1 hP 1 0 rfl rfl (rg_in (⟨by decide, by decide⟩ : rg 1 1 (1 : Int32)) (by decide) (by decide)) dX11_jury_77 ?_
        refine lv_topi (fun x_72 ex_72 => ?_)
        have h_73 : rg 0 1023 x_72 := by rw [ex_72]; exact sg_at s_69 (⟨by decide, by decide⟩ : rg 1 1 (1 : Int32)) (by decide) (by decide) (by decide)
        refine oC_i (Wc := [(h0_bench, .inr (0, [.ref h0_bench_frees, .ref h0_bench_low, .ref h0_bench_high, .ref h0_bench_letGoWeight, .ref h0_bench_holdWeight, .ref h0_bench_heardWith])), (aI ca h0_bench_high 1024 u_60), (aI ca h0_bench_low 1024 u_59)]) (Wr := [(aI ca h0_law_caseFloor 5 F_h0_law_caseFloor), (aI ca h0_latest 7 g_68), (h0, .inr (10, [.ref h0_tape, .ref h0_law, .ref h0_standing, .ref h0_saying, .ref h0_courtReader, .ref h0_bookReader, .ref h0_sentenceReader, .ref h0_bench, .ref h0_whatIf, .ref h0_history, .ref h0_images, .ref h0_latest, .ref h0_latestBook, .ref h0_latestRoll, .int h0_rollLength])), (h0_standing, .inr (9, [.int h0_standing_day, .int h0_standing_sits, .int h0_standing_holds, .int h0_standing_trials, .int h0_standing_triedToday, .ref h0_standing_dents, .ref h0_standing_drops, .ref h0_standing_how, .ref h0_standing_triedOn, .ref h0_standing_dropped, .ref h0_standing_heldOn])), (aI ca h0_law_tuned 40 F_h0_law_tuned), (aI ca h0_law_pitch 10 F_h0_law_pitch), (aI ca h0_law_tune 4 F_h0_law_tune), (aI ca h0_standing_dents 10 F_h0_standing_dents), (h0_law, .inr (5, [.int h0_law_jurors, .int h0_law_floors, .int h0_law_cases, .int h0_law_one, .int h0_law_dent, .int h0_law_seated, .ref h0_law_jurorName, .ref h0_law_floorName, .ref h0_law_caseName, .ref h0_law_pitch, .ref h0_law_length, .ref h0_law_hands, .ref h0_law_tune, .ref h0_law_dull, .ref h0_law_caseFloor, .ref h0_law_tuned]))]) (va_runV (As := [.int x_72]) (rest := []) ⟨hx, hb, hml, hown, hts⟩ (s_X0_apart l D ca H.size h0_bench x_72 h0_bench_frees h0_bench_low h0_bench_high h0_bench_letGoWeight h0_bench_holdWeight h0_bench_heardWith u_60 u_59 h_73) (cwV 1 hts gX11_jury_X0_apart rfl rfl rfl (by decide +kernel) ⟨Nat.le_of_ble_eq_true rfl, Nat.le_of_ble_eq_true rfl⟩) (oPV (C := RX0) hK hP hD [8, 10, 11] rfl (by decide) 0 rfl (ci := 0) rfl rfl) rfl rfl hl.1 rfl (lv_room (Nat.le_of_ble_eq_true rfl)) dX11_jury_78 ⟨Nat.le_of_ble_eq_true rfl, Nat.le_of_ble_eq_true rfl⟩) hP hD hS hA [8, 10, 11] [0, 1, 2, 3, 4, 5, 6, 7, 9] rfl rfl (by decide) (by decide) (fun r_74 u H locs w_75 hP hD hS => ?_)
        obtain ⟨⟩ := u
        have hP : va_P D vwCl [(aI ca h0_law_caseFloor 5 F_h0_law_caseFloor), (aI ca h0_latest 7 g_68), (h0, .inr (10, [.ref h0_tape, .ref h0_law, .ref h0_standing, .ref h0_saying, .ref h0_courtReader, .ref h0_bookReader, .ref h0_sentenceReader, .ref h0_bench, .ref h0_whatIf, .ref h0_history, .ref h0_images, .ref h0_latest, .ref h0_latestBook, .ref h0_latestRoll, .int h0_rollLength])), (h0_standing, .inr (9, [.int h0_standing_day, .int h0_standing_sits, .int h0_standing_holds, .int h0_standing_trials, .int h0_standing_triedToday, .ref h0_standing_dents, .ref h0_standing_drops, .ref h0_standing_how, .ref h0_standing_triedOn, .ref h0_standing_dropped, .ref h0_standing_heldOn])), (aI ca h0_law_tuned 40 F_h0_law_tuned), (aI ca h0_law_pitch 10 F_h0_law_pitch), (aI ca h0_law_tune 4 F_h0_law_tune), (aI ca h0_standing_dents 10 F_h0_standing_dents), (h0_law, .inr (5, [.int h0_law_jurors, .int h0_law_floors, .int h0_law_cases, .int h0_law_one, .int h0_law_dent, .int h0_law_seated, .ref h0_law_jurorName, .ref h0_law_floorName, .ref h0_law_caseName, .ref h0_law_pitch, .ref h0_law_length, .ref h0_law_hands, .ref h0_law_tune, .ref h0_law_dull, .ref h0_law_caseFloor, .ref h0_law_tuned])), (h0_bench, .inr (0, [.ref h0_bench_frees, .ref h0_bench_low, .ref h0_bench_high, .ref h0_bench_letGoWeight, .ref h0_bench_holdWeight, .ref h0_bench_heardWith])), (aI ca h0_bench_high 1024 u_60), (aI ca h0_bench_low 1024 u_59)] H := hP
        have hD : va_D A [(aI ca h0_law_caseFloor 5 F_h0_law_caseFloor), (aI ca h0_latest 7 g_68), (h0, .inr (10, [.ref h0_tape, .ref h0_law, .ref h0_standing, .ref h0_saying, .ref h0_courtReader, .ref h0_bookReader, .ref h0_sentenceReader, .ref h0_bench, .ref h0_whatIf, .ref h0_history, .ref h0_images, .ref h0_latest, .ref h0_latestBook, .ref h0_latestRoll, .int h0_rollLength])), (h0_standing, .inr (9, [.int h0_standing_day, .int h0_standing_sits, .int h0_standing_holds, .int h0_standing_trials, .int h0_standing_triedToday, .ref h0_standing_dents, .ref h0_standing_drops, .ref h0_standing_how, .ref h0_standing_triedOn, .ref h0_standing_dropped, .ref h0_standing_heldOn])), (aI ca h0_law_tuned 40 F_h0_law_tuned), (aI ca h0_law_pitch 10 F_h0_law_pitch), (aI ca h0_law_tune 4 F_h0_law_tune), (aI ca h0_standing_dents 10 F_h0_standing_dents), (h0_law, .inr (5, [.int h0_law_jurors, .int h0_law_floors, .int h0_law_cases, .int h0_law_one, .int h0_law_dent, .int h0_law_seated, .ref h0_law_jurorName, .ref h0_law_floorName, .ref h0_law_caseName, .ref h0_law_pitch, .ref h0_law_length, .ref h0_law_hands, .ref h0_law_tune, .ref h0_law_dull, .ref h0_law_caseFloor, .ref h0_law_tuned])), (h0_bench, .inr (0, [.ref h0_bench_frees, .ref h0_bench_low, .ref h0_bench_high, .ref h0_bench_letGoWeight, .ref h0_bench_holdWeight, .ref h0_bench_heardWith])), (aI ca h0_bench_high 1024 u_60), (aI ca h0_bench_low 1024 u_59)] := hD
        try dsimp only at w_75
        exact oE_i hx hb hr rfl hlocks hP hD hS (u_59, u_60, g_68) [2, 8, 0, 9, 3, 4, 5, 6, 7, 11, 10, 1] rfl (by decide) ⟨q_70, q_71⟩ (Nat.le_of_ble_eq_true rfl) (Nat.le_of_ble_eq_true rfl) dX11_jury_81
      · skip
        have o_76 : rl 1 h0_law_jurors a2 := rl_nle c_51
        refine lv_iconst (v := (-1)) hx hb dX11_jury_24 (by decide) ?_
        exact oE_i hx hb hr rfl hlocks hP hD hS (F_h0_bench_low, F_h0_bench_high, F_h0_latest) [10, 11, 0, 1, 2, 3, 4, 5, 6, 7, 8, 9] rfl (by decide) ⟨(eqs_w (a' := 2) (b' := 7) (eqs_rf (a := 0) (b := 7) F_h0_latest) (by decide) (by decide)), (eqs_w (a' := 0) (b' := 1) (eqs_rf (a := 0) (b := 7) F_h0_latest) (by decide) (by decide))⟩ (Nat.le_of_ble_eq_true rfl) (Nat.le_of_ble_eq_true rfl) dX11_jury_25
theorem dX11_jurors_0 : decode cX11_jurors 0 = .ok (.aload_n 0, 1) := by decide +kernel
theorem dX11_jurors_1 : decode cX11_jurors 1 = .ok (.getfield 83, 3) := by decide +kernel
theorem dX11_jurors_4 : decode cX11_jurors 4 = .ok (.iconst 1, 1) := by decide +kernel
theorem dX11_jurors_5 : decode cX11_jurors 5 = .ok (.iaload, 1) := by decide +kernel
theorem dX11_jurors_6 : decode cX11_jurors 6 = .ok (.ireturn, 1) := by decide +kernel
set_option maxHeartbeats 4000000 in
set_option maxRecDepth 100000 in
theorem s_X11_jurors (l : Launch) (D : va_G) (ca : Nat → ClassId) (sz : Nat) (h0 : Nat) (h0_tape : Nat) (h0_law : Nat) (h0_standing : Nat) (h0_saying : Nat) (h0_courtReader : Nat) (h0_bookReader : Nat) (h0_sentenceReader : Nat) (h0_bench : Nat) (h0_whatIf : Nat) (h0_history : Nat) (h0_images : Nat) (h0_latest : Nat) (h0_latestBook : Nat) (h0_latestRoll : Nat) (h0_rollLength : Int32) (F_h0_latest : Nat → Int32) (i_h0_rollLength : rg 0 40 h0_rollLength) : oMet l yX11_jurors wsX11_jurors ({ frames := 0, cells := 0, slots := 0, locals := 0 } : Room) [.ref h0] D ca sz [(h0, .inr (10, [.ref h0_tape, .ref h0_law, .ref h0_standing, .ref h0_saying, .ref h0_courtReader, .ref h0_bookReader, .ref h0_sentenceReader, .ref h0_bench, .ref h0_whatIf, .ref h0_history, .ref h0_images, .ref h0_latest, .ref h0_latestBook, .ref h0_latestRoll, .int h0_rollLength])), (aI ca h0_latest 7 F_h0_latest)] (oQi D (fun (r : Int32) (u : Unit) => (r = F_h0_latest (1 : Int32).toNatClampNeg)) (fun (u : Unit) => [(h0, .inr (10, [.ref h0_tape, .ref h0_law, .ref h0_standing, .ref h0_saying, .ref h0_courtReader, .ref h0_bookReader, .ref h0_sentenceReader, .ref h0_bench, .ref h0_whatIf, .ref h0_history, .ref h0_images, .ref h0_latest, .ref h0_latestBook, .ref h0_latestRoll, .int h0_rollLength])), (aI ca h0_latest 7 F_h0_latest)])) 0 0 := by
  refine oM (cc := cX11_jurors) (maxL := 1) (ret := (some .int)) (by decide) rfl (Nat.le_of_ble_eq_true rfl) [(0, .ref h0)] rfl ?_
  intro p e s m below meth c A H locs ls hx hb hr hml hts hown hlocks hin hK hP hD hA hS hl
  have hown : s.vm.findClass RX11 = some m.cls := hown
  have k1 := hts (.fieldLink RX11 83 "LidCourt" "latest" "[I") (by decide +kernel)
  have k2 : ∀ w ∈ wsX110, w ∈ wsX11_jurors := fun _ h => List.mem_cons_of_mem _ (List.mem_append_right _ h)
  refine lv_aload_n hx hb dX11_jurors_0 rfl (lv_at hl 0 rfl) ?_
  refine va_get (D := D) (ci := 10) (v := .ref h0_latest) (C := RX11) (T := TX11) (N := 15) hx hb hts k2 hown hK.1 hP 0 rfl rfl 11 (by decide) k1 (fun _ h9 => h9) rfl dX11_jurors_1 ?_
  refine lv_iconst (v := 1) hx hb dX11_jurors_4 (by decide) ?_
  refine va_iald hx hb hK.1 hP 1 0 rfl rfl (rg_in (⟨by decide, by decide⟩ : rg 1 1 (1 : Int32)) (by decide) (by decide)) dX11_jurors_5 ?_
  refine lv_topi (fun x_2 ex_2 => ?_)
  exact oE_i hx hb hr rfl hlocks hP hD hS () [0, 1] rfl (by decide) ex_2 (Nat.le_of_ble_eq_true rfl) (Nat.le_of_ble_eq_true rfl) dX11_jurors_6
theorem dX0_weigh_0 : decode cX0_weigh 0 = .ok (.aload_n 0, 1) := by decide +kernel
theorem dX0_weigh_1 : decode cX0_weigh 1 = .ok (.getfield 22, 3) := by decide +kernel
theorem dX0_weigh_4 : decode cX0_weigh 4 = .ok (.iconst 0, 1) := by decide +kernel
theorem dX0_weigh_5 : decode cX0_weigh 5 = .ok (.lconst 1, 1) := by decide +kernel
theorem dX0_weigh_6 : decode cX0_weigh 6 = .ok (.lastore, 1) := by decide +kernel
theorem dX0_weigh_7 : decode cX0_weigh 7 = .ok (.aload_n 0, 1) := by decide +kernel
theorem dX0_weigh_8 : decode cX0_weigh 8 = .ok (.getfield 26, 3) := by decide +kernel
theorem dX0_weigh_11 : decode cX0_weigh 11 = .ok (.iconst 0, 1) := by decide +kernel
theorem dX0_weigh_12 : decode cX0_weigh 12 = .ok (.lconst 1, 1) := by decide +kernel
theorem dX0_weigh_13 : decode cX0_weigh 13 = .ok (.lastore, 1) := by decide +kernel
theorem dX0_weigh_14 : decode cX0_weigh 14 = .ok (.iconst 1, 1) := by decide +kernel
theorem dX0_weigh_15 : decode cX0_weigh 15 = .ok (.istore_n 2, 1) := by decide +kernel
theorem dX0_weigh_16 : decode cX0_weigh 16 = .ok (.iload_n 2, 1) := by decide +kernel
theorem dX0_weigh_17 : decode cX0_weigh 17 = .ok (.iconst 1, 1) := by decide +kernel
theorem dX0_weigh_18 : decode cX0_weigh 18 = .ok (.aload_n 1, 1) := by decide +kernel
theorem dX0_weigh_19 : decode cX0_weigh 19 = .ok (.getfield 32, 3) := by decide +kernel
theorem dX0_weigh_22 : decode cX0_weigh 22 = .ok (.ishl, 1) := by decide +kernel
theorem dX0_weigh_23 : decode cX0_weigh 23 = .ok (.if_icmp .ge 61, 3) := by decide +kernel
theorem dX0_weigh_26 : decode cX0_weigh 26 = .ok (.aload_n 1, 1) := by decide +kernel
theorem dX0_weigh_27 : decode cX0_weigh 27 = .ok (.getfield 68, 3) := by decide +kernel
theorem dX0_weigh_30 : decode cX0_weigh 30 = .ok (.iload_n 2, 1) := by decide +kernel
theorem dX0_weigh_31 : decode cX0_weigh 31 = .ok (.invokestatic 38, 3) := by decide +kernel
theorem dX0_weigh_34 : decode cX0_weigh 34 = .ok (.iaload, 1) := by decide +kernel
theorem dX0_weigh_35 : decode cX0_weigh 35 = .ok (.istore_n 3, 1) := by decide +kernel
theorem dX0_weigh_36 : decode cX0_weigh 36 = .ok (.iload_n 2, 1) := by decide +kernel
theorem dX0_weigh_37 : decode cX0_weigh 37 = .ok (.iload_n 2, 1) := by decide +kernel
theorem dX0_weigh_38 : decode cX0_weigh 38 = .ok (.iconst 1, 1) := by decide +kernel
theorem dX0_weigh_39 : decode cX0_weigh 39 = .ok (.isub, 1) := by decide +kernel
theorem dX0_weigh_40 : decode cX0_weigh 40 = .ok (.iand, 1) := by decide +kernel
theorem dX0_weigh_41 : decode cX0_weigh 41 = .ok (.istore 4, 2) := by decide +kernel
theorem dX0_weigh_43 : decode cX0_weigh 43 = .ok (.aload_n 0, 1) := by decide +kernel
theorem dX0_weigh_44 : decode cX0_weigh 44 = .ok (.getfield 22, 3) := by decide +kernel
theorem dX0_weigh_47 : decode cX0_weigh 47 = .ok (.iload_n 2, 1) := by decide +kernel
theorem dX0_weigh_48 : decode cX0_weigh 48 = .ok (.aload_n 0, 1) := by decide +kernel
theorem dX0_weigh_49 : decode cX0_weigh 49 = .ok (.getfield 22, 3) := by decide +kernel
theorem dX0_weigh_52 : decode cX0_weigh 52 = .ok (.iload 4, 2) := by decide +kernel
theorem dX0_weigh_54 : decode cX0_weigh 54 = .ok (.laload, 1) := by decide +kernel
theorem dX0_weigh_55 : decode cX0_weigh 55 = .ok (.bipush 12, 2) := by decide +kernel
theorem dX0_weigh_57 : decode cX0_weigh 57 = .ok (.iload_n 3, 1) := by decide +kernel
theorem dX0_weigh_58 : decode cX0_weigh 58 = .ok (.isub, 1) := by decide +kernel
theorem dX0_weigh_59 : decode cX0_weigh 59 = .ok (.i2l, 1) := by decide +kernel
theorem dX0_weigh_60 : decode cX0_weigh 60 = .ok (.lmul, 1) := by decide +kernel
theorem dX0_weigh_61 : decode cX0_weigh 61 = .ok (.lastore, 1) := by decide +kernel
theorem dX0_weigh_62 : decode cX0_weigh 62 = .ok (.aload_n 0, 1) := by decide +kernel
theorem dX0_weigh_63 : decode cX0_weigh 63 = .ok (.getfield 26, 3) := by decide +kernel
theorem dX0_weigh_66 : decode cX0_weigh 66 = .ok (.iload_n 2, 1) := by decide +kernel
theorem dX0_weigh_67 : decode cX0_weigh 67 = .ok (.aload_n 0, 1) := by decide +kernel
theorem dX0_weigh_68 : decode cX0_weigh 68 = .ok (.getfield 26, 3) := by decide +kernel
theorem dX0_weigh_71 : decode cX0_weigh 71 = .ok (.iload 4, 2) := by decide +kernel
theorem dX0_weigh_73 : decode cX0_weigh 73 = .ok (.laload, 1) := by decide +kernel
theorem dX0_weigh_74 : decode cX0_weigh 74 = .ok (.iload_n 3, 1) := by decide +kernel
theorem dX0_weigh_75 : decode cX0_weigh 75 = .ok (.i2l, 1) := by decide +kernel
theorem dX0_weigh_76 : decode cX0_weigh 76 = .ok (.lmul, 1) := by decide +kernel
theorem dX0_weigh_77 : decode cX0_weigh 77 = .ok (.lastore, 1) := by decide +kernel
theorem dX0_weigh_78 : decode cX0_weigh 78 = .ok (.iinc 2 1, 3) := by decide +kernel
theorem dX0_weigh_81 : decode cX0_weigh 81 = .ok (.goto (-65), 3) := by decide +kernel
theorem dX0_weigh_84 : decode cX0_weigh 84 = .ok (.return_, 1) := by decide +kernel
set_option maxRecDepth 20000 in
theorem ggX0_weigh_J6_numberOfTrailingZeros_0f7a4 : GoodIn wsX0_weigh wsJ6_numberOfTrailingZeros_0f7a4 := goodIn_r _ [8, 9] rfl (by decide +kernel)
set_option maxRecDepth 20000 in
theorem gX0_weigh_J6_numberOfTrailingZeros_0f7a4 : GoodIn wsX0_weigh (va_wsS RX0 38 yJ6_numberOfTrailingZeros_0f7a4 wsJ6_numberOfTrailingZeros_0f7a4) := goodIn_app (goodIn_of _ (by decide +kernel)) ggX0_weigh_J6_numberOfTrailingZeros_0f7a4
set_option maxHeartbeats 4000000 in
set_option maxRecDepth 100000 in
theorem s_X0_weigh (l : Launch) (D : va_G) (ca : Nat → ClassId) (sz : Nat) (h0 : Nat) (r1 : Nat) (h0_frees : Nat) (h0_low : Nat) (h0_high : Nat) (h0_letGoWeight : Nat) (h0_holdWeight : Nat) (h0_heardWith : Nat) (F_h0_letGoWeight : Nat → Int64) (F_h0_holdWeight : Nat → Int64) (r1_jurors : Int32) (r1_floors : Int32) (r1_cases : Int32) (r1_one : Int32) (r1_dent : Int32) (r1_seated : Int32) (r1_jurorName : Nat) (r1_floorName : Nat) (r1_caseName : Nat) (r1_pitch : Nat) (r1_length : Nat) (r1_hands : Nat) (r1_tune : Nat) (r1_dull : Nat) (r1_caseFloor : Nat) (r1_tuned : Nat) (F_r1_hands : Nat → Int32) (i_r1_jurors : rg 0 10 r1_jurors) (i_r1_floors : rg 0 4 r1_floors) (i_r1_cases : rg 0 5 r1_cases) (i_r1_seated : rg 0 1023 r1_seated) : oMet l yX0_weigh wsX0_weigh ({ frames := 1, cells := 0, slots := 0, locals := 21 } : Room) [.ref h0, .ref r1] D ca sz [(h0, .inr (0, [.ref h0_frees, .ref h0_low, .ref h0_high, .ref h0_letGoWeight, .ref h0_holdWeight, .ref h0_heardWith])), (aJ ca h0_letGoWeight 1024 F_h0_letGoWeight), (aJ ca h0_holdWeight 1024 F_h0_holdWeight), (r1, .inr (5, [.int r1_jurors, .int r1_floors, .int r1_cases, .int r1_one, .int r1_dent, .int r1_seated, .ref r1_jurorName, .ref r1_floorName, .ref r1_caseName, .ref r1_pitch, .ref r1_length, .ref r1_hands, .ref r1_tune, .ref r1_dull, .ref r1_caseFloor, .ref r1_tuned])), (aI ca r1_hands 10 F_r1_hands)] (oQv D (fun (u : (Nat → Int64) × (Nat → Int64)) => True) (fun (u : (Nat → Int64) × (Nat → Int64)) => [(h0, .inr (0, [.ref h0_frees, .ref h0_low, .ref h0_high, .ref h0_letGoWeight, .ref h0_holdWeight, .ref h0_heardWith])), (aJ ca h0_letGoWeight 1024 u.1), (aJ ca h0_holdWeight 1024 u.2), (r1, .inr (5, [.int r1_jurors, .int r1_floors, .int r1_cases, .int r1_one, .int r1_dent, .int r1_seated, .ref r1_jurorName, .ref r1_floorName, .ref r1_caseName, .ref r1_pitch, .ref r1_length, .ref r1_hands, .ref r1_tune, .ref r1_dull, .ref r1_caseFloor, .ref r1_tuned])), (aI ca r1_hands 10 F_r1_hands)])) 0 0 := by
  refine oM (cc := cX0_weigh) (maxL := 5) (ret := none) (by decide) rfl (Nat.le_of_ble_eq_true rfl) [(0, .ref h0), (1, .ref r1)] rfl ?_
  intro p e s m below meth c A H locs ls hx hb hr hml hts hown hlocks hin hK hP hD hA hS hl
  have hown : s.vm.findClass RX0 = some m.cls := hown
  have k1 := hts (.fieldLink RX0 32 "LidCourt$Law" "jurors" "I") (by decide +kernel)
  have k2 : ∀ w ∈ wsX50, w ∈ wsX0_weigh := fun _ h => List.mem_cons_of_mem _ (List.mem_append_right _ h)
  have k3 := hts (.fieldLink RX0 68 "LidCourt$Law" "hands" "[I") (by decide +kernel)
  have k4 := hts (.fieldLink RX0 22 "LidCourt$Bench" "letGoWeight" "[J") (by decide +kernel)
  have k5 : ∀ w ∈ wsX00, w ∈ wsX0_weigh := fun _ h => List.mem_cons_of_mem _ (List.mem_append_left _ (List.mem_append_right _ h))
  have k6 := hts (.fieldLink RX0 26 "LidCourt$Bench" "holdWeight" "[J") (by decide +kernel)
  have J16_353 : ∀ (n : Nat) (y16_0 : Int32) (f16_1 : Nat → Int64) (f16_2 : Nat → Int64), True → rg 1 1024 y16_0 → 1024 < y16_0.toInt + (n : Int) → ∀ (H : Heap) (locs : List Loc) (ls : Array Slot), va_P D vwCl [(h0, .inr (0, [.ref h0_frees, .ref h0_low, .ref h0_high, .ref h0_letGoWeight, .ref h0_holdWeight, .ref h0_heardWith])), (aJ ca h0_letGoWeight 1024 f16_1), (aJ ca h0_holdWeight 1024 f16_2), (r1, .inr (5, [.int r1_jurors, .int r1_floors, .int r1_cases, .int r1_one, .int r1_dent, .int r1_seated, .ref r1_jurorName, .ref r1_floorName, .ref r1_caseName, .ref r1_pitch, .ref r1_length, .ref r1_hands, .ref r1_tune, .ref r1_dull, .ref r1_caseFloor, .ref r1_tuned])), (aI ca r1_hands 10 F_r1_hands)] H → va_D A [(h0, .inr (0, [.ref h0_frees, .ref h0_low, .ref h0_high, .ref h0_letGoWeight, .ref h0_holdWeight, .ref h0_heardWith])), (aJ ca h0_letGoWeight 1024 f16_1), (aJ ca h0_holdWeight 1024 f16_2), (r1, .inr (5, [.int r1_jurors, .int r1_floors, .int r1_cases, .int r1_one, .int r1_dent, .int r1_seated, .ref r1_jurorName, .ref r1_floorName, .ref r1_caseName, .ref r1_pitch, .ref r1_length, .ref r1_hands, .ref r1_tune, .ref r1_dull, .ref r1_caseFloor, .ref r1_tuned])), (aI ca r1_hands 10 F_r1_hands)] → va_S A s.heap H locs → lv_has ls 5 [(0, .ref h0), (1, .ref r1), (2, .int y16_0)] → W p l e ({ frames := 1, cells := 0, slots := 0, locals := 21 } : Room) s m ([.ref h0, .ref r1] : List Value).toArray below meth c H locs 0 0 (MQ below ((oQv D (fun (u : (Nat → Int64) × (Nat → Int64)) => True) (fun (u : (Nat → Int64) × (Nat → Int64)) => [(h0, .inr (0, [.ref h0_frees, .ref h0_low, .ref h0_high, .ref h0_letGoWeight, .ref h0_holdWeight, .ref h0_heardWith])), (aJ ca h0_letGoWeight 1024 u.1), (aJ ca h0_holdWeight 1024 u.2), (r1, .inr (5, [.int r1_jurors, .int r1_floors, .int r1_cases, .int r1_one, .int r1_dent, .int r1_seated, .ref r1_jurorName, .ref r1_floorName, .ref r1_caseName, .ref r1_pitch, .ref r1_length, .ref r1_hands, .ref r1_tune, .ref r1_dull, .ref r1_caseFloor, .ref r1_tuned])), (aI ca r1_hands 10 F_r1_hands)])) A) ([.ref h0, .ref r1] : List Value).toArray s 0 0 A) (F0 m 16 ls []) := by
    intro n
    induction n with
    | zero => intro y16_0 f16_1 f16_2 _ hy16_0 hn; exact absurd hn (by have q9 := hy16_0.2; omega)
    | succ n ih =>
      intro y16_0 f16_1 f16_2 _ hy16_0 hn H locs ls hP hD hS hl
      refine lv_iload_n hx hb dX0_weigh_16 rfl (lv_at hl 2 rfl) ?_
      refine lv_iconst (v := 1) hx hb dX0_weigh_17 (by decide) ?_
      refine lv_aload_n hx hb dX0_weigh_18 rfl (lv_at hl 1 rfl) ?_
      refine va_get (D := D) (ci := 5) (v := .int r1_jurors) (C := RX5) (T := TX5) (N := 16) hx hb hts k2 hown hK.1 hP 3 rfl rfl 0 (by decide) k1 (fun _ h9 => h9) rfl dX0_weigh_19 ?_
      refine lv_ishl hx hb dX0_weigh_22 ?_
      refine lv_topi (fun x_384 ex_384 => ?_)
      have h_385 : rg 1 1024 x_384 := by rw [ex_384]; exact rg_shl1 i_r1_jurors (by decide) (by decide) (by decide) (by decide)
      refine lv_icmp_ge (tgt := 84) hx hb dX0_weigh_23 (by decide) (fun c_386 => ?_) (fun c_386 => ?_)
      · skip
        have o_387 : rl 0 x_384 y16_0 := rl_le c_386
        exact oE_v hx hb hr hlocks hP hD hS (f16_1, f16_2) [0, 1, 2, 3, 4] rfl (by decide) trivial (Nat.le_of_ble_eq_true rfl) (Nat.le_of_ble_eq_true rfl) dX0_weigh_84
      · skip
        have o_388 : rl 1 y16_0 x_384 := rl_nle c_386
        have h_389 : rg 1 1023 y16_0 := rl_x o_388 hy16_0 h_385 (by decide) (by decide)
        have h_390 : rg 2 1024 x_384 := rl_y o_388 hy16_0 h_385 (by decide) (by decide)
        refine lv_aload_n hx hb dX0_weigh_26 rfl (lv_at hl 1 rfl) ?_
        refine va_get (D := D) (ci := 5) (v := .ref r1_hands) (C := RX5) (T := TX5) (N := 16) hx hb hts k2 hown hK.1 hP 3 rfl rfl 11 (by decide) k3 (fun _ h9 => h9) rfl dX0_weigh_27 ?_
        refine lv_iload_n hx hb dX0_weigh_30 rfl (lv_at hl 2 rfl) ?_
        refine oC_i (Wc := []) (Wr := [(h0, .inr (0, [.ref h0_frees, .ref h0_low, .ref h0_high, .ref h0_letGoWeight, .ref h0_holdWeight, .ref h0_heardWith])), (aJ ca h0_letGoWeight 1024 f16_1), (aJ ca h0_holdWeight 1024 f16_2), (r1, .inr (5, [.int r1_jurors, .int r1_floors, .int r1_cases, .int r1_one, .int r1_dent, .int r1_seated, .ref r1_jurorName, .ref r1_floorName, .ref r1_caseName, .ref r1_pitch, .ref r1_length, .ref r1_hands, .ref r1_tune, .ref r1_dull, .ref r1_caseFloor, .ref r1_tuned])), (aI ca r1_hands 10 F_r1_hands)]) (va_runS (As := [.int y16_0]) (rest := [.ref r1_hands]) ⟨hx, hb, hml, hown, hts⟩ (s_ntz l D ca H.size y16_0 h_389) (va_cwS 1 hts gX0_weigh_J6_numberOfTrailingZeros_0f7a4 rfl rfl rfl (by decide +kernel) ⟨Nat.le_of_ble_eq_true rfl, Nat.le_of_ble_eq_true rfl⟩) (oPS hK hP hD [] rfl (by decide)) rfl rfl hl.1 rfl (lv_room (Nat.le_of_ble_eq_true rfl)) dX0_weigh_31 ⟨Nat.le_of_ble_eq_true rfl, Nat.le_of_ble_eq_true rfl⟩) hP hD hS hA [] [0, 1, 2, 3, 4] rfl rfl (by decide) (by decide) (fun r_391 u H locs w_392 hP hD hS => ?_)
        obtain ⟨⟩ := u
        have hP : va_P D vwCl [(h0, .inr (0, [.ref h0_frees, .ref h0_low, .ref h0_high, .ref h0_letGoWeight, .ref h0_holdWeight, .ref h0_heardWith])), (aJ ca h0_letGoWeight 1024 f16_1), (aJ ca h0_holdWeight 1024 f16_2), (r1, .inr (5, [.int r1_jurors, .int r1_floors, .int r1_cases, .int r1_one, .int r1_dent, .int r1_seated, .ref r1_jurorName, .ref r1_floorName, .ref r1_caseName, .ref r1_pitch, .ref r1_length, .ref r1_hands, .ref r1_tune, .ref r1_dull, .ref r1_caseFloor, .ref r1_tuned])), (aI ca r1_hands 10 F_r1_hands)] H := hP
        have hD : va_D A [(h0, .inr (0, [.ref h0_frees, .ref h0_low, .ref h0_high, .ref h0_letGoWeight, .ref h0_holdWeight, .ref h0_heardWith])), (aJ ca h0_letGoWeight 1024 f16_1), (aJ ca h0_holdWeight 1024 f16_2), (r1, .inr (5, [.int r1_jurors, .int r1_floors, .int r1_cases, .int r1_one, .int r1_dent, .int r1_seated, .ref r1_jurorName, .ref r1_floorName, .ref r1_caseName, .ref r1_pitch, .ref r1_length, .ref r1_hands, .ref r1_tune, .ref r1_dull, .ref r1_caseFloor, .ref r1_tuned])), (aI ca r1_hands 10 F_r1_hands)] := hD
        try dsimp only at w_392
        have h_393 := w_392
        refine va_iald hx hb hK.1 hP 4 0 rfl rfl (rg_in h_393 (by decide) (by decide)) dX0_weigh_34 ?_
        refine lv_topi (fun x_394 ex_394 => ?_)
        refine lv_istore_n (lv' := [(3, .int x_394), (0, .ref h0), (1, .ref r1), (2, .int y16_0)]) hx hb dX0_weigh_35 rfl hl (by decide) rfl (fun ls hl => ?_)
        refine lv_iload_n hx hb dX0_weigh_36 rfl (lv_at hl 3 rfl) ?_
        refine lv_iload_n hx hb dX0_weigh_37 rfl (lv_at hl 3 rfl) ?_
        refine lv_iconst (v := 1) hx hb dX0_weigh_38 (by decide) ?_
        refine lv_isub hx hb dX0_weigh_39 ?_
        refine lv_topi (fun x_395 ex_395 => ?_)
        have h_396 : rg 0 1022 x_395 := by rw [ex_395]; exact rg_sub h_389 (⟨by decide, by decide⟩ : rg 1 1 (1 : Int32)) (by decide) (by decide) (by decide) (by decide)
        have l_397 : lq x_395.toInt (y16_0.toInt + (-1)) := lqm (by rw [ex_395]; have q := tsub h_389 (⟨by decide, by decide⟩ : rg 1 1 (1 : Int32)) (by decide) (by decide); have r1 := lqe (lqm (by decide) : lq (1 : Int32).toInt 1); omega)
        refine lv_iand hx hb dX0_weigh_40 ?_
        refine lv_topi (fun x_398 ex_398 => ?_)
        have h_399 : rg 0 1022 x_398 := by rw [ex_398]; exact rg_and' h_396 (by decide) (by decide) (by decide)
        have o_400 : rl 0 x_398 y16_0 := by rw [ex_398]; exact rl_and h_389 (by decide)
        have o_401 : rl 0 x_398 x_395 := by rw [ex_398]; exact rl_and' h_396 (by decide)
        refine lv_istore (lv' := [(4, .int x_398), (3, .int x_394), (0, .ref h0), (1, .ref r1), (2, .int y16_0)]) hx hb dX0_weigh_41 hl (by decide) rfl (fun ls hl => ?_)
        refine lv_aload_n hx hb dX0_weigh_43 rfl (lv_at hl 2 rfl) ?_
        refine va_get (D := D) (ci := 0) (v := .ref h0_letGoWeight) (C := RX0) (T := TX0) (N := 6) hx hb hts k5 hown hK.1 hP 0 rfl rfl 3 (by decide) k4 (fun _ h9 => h9) rfl dX0_weigh_44 ?_
        refine lv_iload_n hx hb dX0_weigh_47 rfl (lv_at hl 4 rfl) ?_
        refine lv_aload_n hx hb dX0_weigh_48 rfl (lv_at hl 2 rfl) ?_
        refine va_get (D := D) (ci := 0) (v := .ref h0_letGoWeight) (C := RX0) (T := TX0) (N := 6) hx hb hts k5 hown hK.1 hP 0 rfl rfl 3 (by decide) k4 (fun _ h9 => h9) rfl dX0_weigh_49 ?_
        refine lv_iload hx hb dX0_weigh_52 (lv_at hl 0 rfl) ?_
        refine va_lald hx hb hK.1 hP 1 1 rfl rfl (rg_in h_399 (by decide) (by decide)) dX0_weigh_54 ?_
        refine lv_topl (fun x_402 ex_402 => ?_)
        refine lv_bipush (v := 12) hx hb dX0_weigh_55 (by decide) ?_
        refine lv_iload_n hx hb dX0_weigh_57 rfl (lv_at hl 1 rfl) ?_
        refine lv_isub hx hb dX0_weigh_58 ?_
        refine lv_topi (fun x_403 ex_403 => ?_)
        refine lv_i2l hx hb dX0_weigh_59 rfl ?_
        refine lv_topl (fun x_404 ex_404 => ?_)
        refine lv_lmul hx hb dX0_weigh_60 ?_
        refine lv_topl (fun x_405 ex_405 => ?_)
        refine va_last hx hb hK.1 hP hD hS 1 1 rfl rfl (rg_in h_389 (by decide) (by decide)) dX0_weigh_61 (fun H locs hP hD hS => ?_)
        obtain ⟨g_406, eg_406⟩ : ∃ y : Nat → Int64, y = vp_updL f16_1 (y16_0 : Int32).toNatClampNeg (x_405 : Int64) := ⟨_, rfl⟩
        rw [← eg_406] at hP hD
        have hP : va_P D vwCl [(h0, .inr (0, [.ref h0_frees, .ref h0_low, .ref h0_high, .ref h0_letGoWeight, .ref h0_holdWeight, .ref h0_heardWith])), (aJ ca h0_letGoWeight 1024 g_406), (aJ ca h0_holdWeight 1024 f16_2), (r1, .inr (5, [.int r1_jurors, .int r1_floors, .int r1_cases, .int r1_one, .int r1_dent, .int r1_seated, .ref r1_jurorName, .ref r1_floorName, .ref r1_caseName, .ref r1_pitch, .ref r1_length, .ref r1_hands, .ref r1_tune, .ref r1_dull, .ref r1_caseFloor, .ref r1_tuned])), (aI ca r1_hands 10 F_r1_hands)] H := hP
        have hD : va_D A [(h0, .inr (0, [.ref h0_frees, .ref h0_low, .ref h0_high, .ref h0_letGoWeight, .ref h0_holdWeight, .ref h0_heardWith])), (aJ ca h0_letGoWeight 1024 g_406), (aJ ca h0_holdWeight 1024 f16_2), (r1, .inr (5, [.int r1_jurors, .int r1_floors, .int r1_cases, .int r1_one, .int r1_dent, .int r1_seated, .ref r1_jurorName, .ref r1_floorName, .ref r1_caseName, .ref r1_pitch, .ref r1_length, .ref r1_hands, .ref r1_tune, .ref r1_dull, .ref r1_caseFloor, .ref r1_tuned])), (aI ca r1_hands 10 F_r1_hands)] := hD
        refine lv_aload_n hx hb dX0_weigh_62 rfl (lv_at hl 2 rfl) ?_
        refine va_get (D := D) (ci := 0) (v := .ref h0_holdWeight) (C := RX0) (T := TX0) (N := 6) hx hb hts k5 hown hK.1 hP 0 rfl rfl 4 (by decide) k6 (fun _ h9 => h9) rfl dX0_weigh_63 ?_
        refine lv_iload_n hx hb dX0_weigh_66 rfl (lv_at hl 4 rfl) ?_
        refine lv_aload_n hx hb dX0_weigh_67 rfl (lv_at hl 2 rfl) ?_
        refine va_get (D := D) (ci := 0) (v := .ref h0_holdWeight) (C := RX0) (T := TX0) (N := 6) hx hb hts k5 hown hK.1 hP 0 rfl rfl 4 (by decide) k6 (fun _ h9 => h9) rfl dX0_weigh_68 ?_
        refine lv_iload hx hb dX0_weigh_71 (lv_at hl 0 rfl) ?_
        refine va_lald hx hb hK.1 hP 2 1 rfl rfl (rg_in h_399 (by decide) (by decide)) dX0_weigh_73 ?_
        refine lv_topl (fun x_407 ex_407 => ?_)
        refine lv_iload_n hx hb dX0_weigh_74 rfl (lv_at hl 1 rfl) ?_
        refine lv_i2l hx hb dX0_weigh_75 rfl ?_
        refine lv_topl (fun x_408 ex_408 => ?_)
        refine lv_lmul hx hb dX0_weigh_76 ?_
        refine lv_topl (fun x_409 ex_409 => ?_)
        refine va_last hx hb hK.1 hP hD hS 2 1 rfl rfl (rg_in h_389 (by decide) (by decide)) dX0_weigh_77 (fun H locs hP hD hS => ?_)
        obtain ⟨g_410, eg_410⟩ : ∃ y : Nat → Int64, y = vp_updL f16_2 (y16_0 : Int32).toNatClampNeg (x_409 : Int64) := ⟨_, rfl⟩
        rw [← eg_410] at hP hD
        have hP : va_P D vwCl [(h0, .inr (0, [.ref h0_frees, .ref h0_low, .ref h0_high, .ref h0_letGoWeight, .ref h0_holdWeight, .ref h0_heardWith])), (aJ ca h0_letGoWeight 1024 g_406), (aJ ca h0_holdWeight 1024 g_410), (r1, .inr (5, [.int r1_jurors, .int r1_floors, .int r1_cases, .int r1_one, .int r1_dent, .int r1_seated, .ref r1_jurorName, .ref r1_floorName, .ref r1_caseName, .ref r1_pitch, .ref r1_length, .ref r1_hands, .ref r1_tune, .ref r1_dull, .ref r1_caseFloor, .ref r1_tuned])), (aI ca r1_hands 10 F_r1_hands)] H := hP
        have hD : va_D A [(h0, .inr (0, [.ref h0_frees, .ref h0_low, .ref h0_high, .ref h0_letGoWeight, .ref h0_holdWeight, .ref h0_heardWith])), (aJ ca h0_letGoWeight 1024 g_406), (aJ ca h0_holdWeight 1024 g_410), (r1, .inr (5, [.int r1_jurors, .int r1_floors, .int r1_cases, .int r1_one, .int r1_dent, .int r1_seated, .ref r1_jurorName, .ref r1_floorName, .ref r1_caseName, .ref r1_pitch, .ref r1_length, .ref r1_hands, .ref r1_tune, .ref r1_dull, .ref r1_caseFloor, .ref r1_tuned])), (aI ca r1_hands 10 F_r1_hands)] := hD
        obtain ⟨x_411, ex_411⟩ : ∃ y : Int32, y = y16_0 + 1 := ⟨_, rfl⟩
        have h_412 : rg 2 1024 x_411 := by rw [ex_411]; exact rg_add h_389 (⟨by decide, by decide⟩ : rg 1 1 (1 : Int32)) (by decide) (by decide) (by decide) (by decide)
        have l_413 : lq x_411.toInt (y16_0.toInt + 1) := lqm (by rw [ex_411]; have q := tadd h_389 (⟨by decide, by decide⟩ : rg 1 1 (1 : Int32)) (by decide) (by decide); have r1 := lqe (lqm (by decide) : lq (1 : Int32).toInt 1); omega)
        refine lv_iinc (v := x_411) (lv' := [(2, .int x_411), (4, .int x_398), (3, .int x_394), (0, .ref h0), (1, .ref r1)]) hx hb dX0_weigh_78 hl (k := 4) rfl (by rw [ex_411]; rfl) (by decide) rfl (fun ls hl => ?_)
        refine lv_goto (tgt := 16) hx hb dX0_weigh_81 (by decide) ?_
        exact ih x_411 g_406 g_410 trivial (rgw (lo := 1) (hi := 1024) h_412 (by decide) (by decide)) (by have q0 := lqe l_413; omega) H locs ls (oPsub hP [0, 1, 2, 3, 4] rfl) (hD.sub [0, 1, 2, 3, 4] (by decide) rfl) hS (lv_sub hl [3, 4, 0] rfl)
  refine lv_aload_n hx hb dX0_weigh_0 rfl (lv_at hl 0 rfl) ?_
  refine va_get (D := D) (ci := 0) (v := .ref h0_letGoWeight) (C := RX0) (T := TX0) (N := 6) hx hb hts k5 hown hK.1 hP 0 rfl rfl 3 (by decide) k4 (fun _ h9 => h9) rfl dX0_weigh_1 ?_
  refine lv_iconst (v := 0) hx hb dX0_weigh_4 (by decide) ?_
  refine lv_lconst (v := 1) hx hb dX0_weigh_5 (by decide) ?_
  refine va_last hx hb hK.1 hP hD hS 1 1 rfl rfl (rg_in (⟨by decide, by decide⟩ : rg 0 0 (0 : Int32)) (by decide) (by decide)) dX0_weigh_6 (fun H locs hP hD hS => ?_)
  obtain ⟨g_414, eg_414⟩ : ∃ y : Nat → Int64, y = vp_updL F_h0_letGoWeight (0 : Int32).toNatClampNeg (1 : Int64) := ⟨_, rfl⟩
  rw [← eg_414] at hP hD
  have hP : va_P D vwCl [(h0, .inr (0, [.ref h0_frees, .ref h0_low, .ref h0_high, .ref h0_letGoWeight, .ref h0_holdWeight, .ref h0_heardWith])), (aJ ca h0_letGoWeight 1024 g_414), (aJ ca h0_holdWeight 1024 F_h0_holdWeight), (r1, .inr (5, [.int r1_jurors, .int r1_floors, .int r1_cases, .int r1_one, .int r1_dent, .int r1_seated, .ref r1_jurorName, .ref r1_floorName, .ref r1_caseName, .ref r1_pitch, .ref r1_length, .ref r1_hands, .ref r1_tune, .ref r1_dull, .ref r1_caseFloor, .ref r1_tuned])), (aI ca r1_hands 10 F_r1_hands)] H := hP
  have hD : va_D A [(h0, .inr (0, [.ref h0_frees, .ref h0_low, .ref h0_high, .ref h0_letGoWeight, .ref h0_holdWeight, .ref h0_heardWith])), (aJ ca h0_letGoWeight 1024 g_414), (aJ ca h0_holdWeight 1024 F_h0_holdWeight), (r1, .inr (5, [.int r1_jurors, .int r1_floors, .int r1_cases, .int r1_one, .int r1_dent, .int r1_seated, .ref r1_jurorName, .ref r1_floorName, .ref r1_caseName, .ref r1_pitch, .ref r1_length, .ref r1_hands, .ref r1_tune, .ref r1_dull, .ref r1_caseFloor, .ref r1_tuned])), (aI ca r1_hands 10 F_r1_hands)] := hD
  refine lv_aload_n hx hb dX0_weigh_7 rfl (lv_at hl 0 rfl) ?_
  refine va_get (D := D) (ci := 0) (v := .ref h0_holdWeight) (C := RX0) (T := TX0) (N := 6) hx hb hts k5 hown hK.1 hP 0 rfl rfl 4 (by decide) k6 (fun _ h9 => h9) rfl dX0_weigh_8 ?_
  refine lv_iconst (v := 0) hx hb dX0_weigh_11 (by decide) ?_
  refine lv_lconst (v := 1) hx hb dX0_weigh_12 (by decide) ?_
  refine va_last hx hb hK.1 hP hD hS 2 1 rfl rfl (rg_in (⟨by decide, by decide⟩ : rg 0 0 (0 : Int32)) (by decide) (by decide)) dX0_weigh_13 (fun H locs hP hD hS => ?_)
  obtain ⟨g_415, eg_415⟩ : ∃ y : Nat → Int64, y = vp_updL F_h0_holdWeight (0 : Int32).toNatClampNeg (1 : Int64) := ⟨_, rfl⟩
  rw [← eg_415] at hP hD
  have hP : va_P D vwCl [(h0, .inr (0, [.ref h0_frees, .ref h0_low, .ref h0_high, .ref h0_letGoWeight, .ref h0_holdWeight, .ref h0_heardWith])), (aJ ca h0_letGoWeight 1024 g_414), (aJ ca h0_holdWeight 1024 g_415), (r1, .inr (5, [.int r1_jurors, .int r1_floors, .int r1_cases, .int r1_one, .int r1_dent, .int r1_seated, .ref r1_jurorName, .ref r1_floorName, .ref r1_caseName, .ref r1_pitch, .ref r1_length, .ref r1_hands, .ref r1_tune, .ref r1_dull, .ref r1_caseFloor, .ref r1_tuned])), (aI ca r1_hands 10 F_r1_hands)] H := hP
  have hD : va_D A [(h0, .inr (0, [.ref h0_frees, .ref h0_low, .ref h0_high, .ref h0_letGoWeight, .ref h0_holdWeight, .ref h0_heardWith])), (aJ ca h0_letGoWeight 1024 g_414), (aJ ca h0_holdWeight 1024 g_415), (r1, .inr (5, [.int r1_jurors, .int r1_floors, .int r1_cases, .int r1_one, .int r1_dent, .int r1_seated, .ref r1_jurorName, .ref r1_floorName, .ref r1_caseName, .ref r1_pitch, .ref r1_length, .ref r1_hands, .ref r1_tune, .ref r1_dull, .ref r1_caseFloor, .ref r1_tuned])), (aI ca r1_hands 10 F_r1_hands)] := hD
  refine lv_iconst (v := 1) hx hb dX0_weigh_14 (by decide) ?_
  refine lv_istore_n (lv' := [(2, .int 1), (0, .ref h0), (1, .ref r1)]) hx hb dX0_weigh_15 rfl hl (by decide) rfl (fun ls hl => ?_)
  exact J16_353 1024 1 g_414 g_415 trivial (⟨by decide, by decide⟩ : rg 1 1024 (1 : Int32)) (by have q0 := (⟨by decide, by decide⟩ : rg 1 1 (1 : Int32)).1; omega) H locs ls (oPsub hP [0, 1, 2, 3, 4] rfl) (hD.sub [0, 1, 2, 3, 4] (by decide) rfl) hS (lv_sub hl [1, 2, 0] rfl)
theorem dX0_freeWeight_0 : decode cX0_freeWeight 0 = .ok (.lconst 0, 1) := by decide +kernel
theorem dX0_freeWeight_1 : decode cX0_freeWeight 1 = .ok (.lstore_n 3, 1) := by decide +kernel
theorem dX0_freeWeight_2 : decode cX0_freeWeight 2 = .ok (.iload_n 1, 1) := by decide +kernel
theorem dX0_freeWeight_3 : decode cX0_freeWeight 3 = .ok (.istore 5, 2) := by decide +kernel
theorem dX0_freeWeight_5 : decode cX0_freeWeight 5 = .ok (.iload 5, 2) := by decide +kernel
theorem dX0_freeWeight_7 : decode cX0_freeWeight 7 = .ok (.ifCond .le 44, 3) := by decide +kernel
theorem dX0_freeWeight_10 : decode cX0_freeWeight 10 = .ok (.aload_n 0, 1) := by decide +kernel
theorem dX0_freeWeight_11 : decode cX0_freeWeight 11 = .ok (.iload 5, 2) := by decide +kernel
theorem dX0_freeWeight_13 : decode cX0_freeWeight 13 = .ok (.invokevirtual 59, 3) := by decide +kernel
theorem dX0_freeWeight_16 : decode cX0_freeWeight 16 = .ok (.iload_n 2, 1) := by decide +kernel
theorem dX0_freeWeight_17 : decode cX0_freeWeight 17 = .ok (.if_icmp .gt 23, 3) := by decide +kernel
theorem dX0_freeWeight_20 : decode cX0_freeWeight 20 = .ok (.lload_n 3, 1) := by decide +kernel
theorem dX0_freeWeight_21 : decode cX0_freeWeight 21 = .ok (.aload_n 0, 1) := by decide +kernel
theorem dX0_freeWeight_22 : decode cX0_freeWeight 22 = .ok (.getfield 22, 3) := by decide +kernel
theorem dX0_freeWeight_25 : decode cX0_freeWeight 25 = .ok (.iload 5, 2) := by decide +kernel
theorem dX0_freeWeight_27 : decode cX0_freeWeight 27 = .ok (.laload, 1) := by decide +kernel
theorem dX0_freeWeight_28 : decode cX0_freeWeight 28 = .ok (.aload_n 0, 1) := by decide +kernel
theorem dX0_freeWeight_29 : decode cX0_freeWeight 29 = .ok (.getfield 26, 3) := by decide +kernel
theorem dX0_freeWeight_32 : decode cX0_freeWeight 32 = .ok (.iload_n 1, 1) := by decide +kernel
theorem dX0_freeWeight_33 : decode cX0_freeWeight 33 = .ok (.iload 5, 2) := by decide +kernel
theorem dX0_freeWeight_35 : decode cX0_freeWeight 35 = .ok (.ixor, 1) := by decide +kernel
theorem dX0_freeWeight_36 : decode cX0_freeWeight 36 = .ok (.laload, 1) := by decide +kernel
theorem dX0_freeWeight_37 : decode cX0_freeWeight 37 = .ok (.lmul, 1) := by decide +kernel
theorem dX0_freeWeight_38 : decode cX0_freeWeight 38 = .ok (.ladd, 1) := by decide +kernel
theorem dX0_freeWeight_39 : decode cX0_freeWeight 39 = .ok (.lstore_n 3, 1) := by decide +kernel
theorem dX0_freeWeight_40 : decode cX0_freeWeight 40 = .ok (.iload 5, 2) := by decide +kernel
theorem dX0_freeWeight_42 : decode cX0_freeWeight 42 = .ok (.iconst 1, 1) := by decide +kernel
theorem dX0_freeWeight_43 : decode cX0_freeWeight 43 = .ok (.isub, 1) := by decide +kernel
theorem dX0_freeWeight_44 : decode cX0_freeWeight 44 = .ok (.iload_n 1, 1) := by decide +kernel
theorem dX0_freeWeight_45 : decode cX0_freeWeight 45 = .ok (.iand, 1) := by decide +kernel
theorem dX0_freeWeight_46 : decode cX0_freeWeight 46 = .ok (.istore 5, 2) := by decide +kernel
theorem dX0_freeWeight_48 : decode cX0_freeWeight 48 = .ok (.goto (-43), 3) := by decide +kernel
theorem dX0_freeWeight_51 : decode cX0_freeWeight 51 = .ok (.lload_n 3, 1) := by decide +kernel
theorem dX0_freeWeight_52 : decode cX0_freeWeight 52 = .ok (.lreturn, 1) := by decide +kernel
set_option maxRecDepth 20000 in
theorem ggX0_freeWeight_X0_apart : GoodIn wsX0_freeWeight wsX0_apart := goodIn_r _ [7, 8, 9, 10, 11, 12, 13, 14, 15] rfl (by decide +kernel)
set_option maxRecDepth 20000 in
theorem gX0_freeWeight_X0_apart : GoodIn wsX0_freeWeight (wsV RX0 59 RX0 yX0_apart wsX0_apart) := goodIn_app (goodIn_of _ (by decide +kernel)) ggX0_freeWeight_X0_apart
set_option maxHeartbeats 4000000 in
set_option maxRecDepth 100000 in
theorem s_X0_freeWeight (l : Launch) (D : va_G) (ca : Nat → ClassId) (sz : Nat) (h0 : Nat) (a1 : Int32) (a2 : Int32) (h0_frees : Nat) (h0_low : Nat) (h0_high : Nat) (h0_letGoWeight : Nat) (h0_holdWeight : Nat) (h0_heardWith : Nat) (F_h0_high : Nat → Int32) (F_h0_low : Nat → Int32) (F_h0_letGoWeight : Nat → Int64) (F_h0_holdWeight : Nat → Int64) (i_a1 : rg 0 1023 a1) : oMet l yX0_freeWeight wsX0_freeWeight ({ frames := 1, cells := 0, slots := 0, locals := 21 } : Room) [.ref h0, .int a1, .int a2] D ca sz [(h0, .inr (0, [.ref h0_frees, .ref h0_low, .ref h0_high, .ref h0_letGoWeight, .ref h0_holdWeight, .ref h0_heardWith])), (aI ca h0_high 1024 F_h0_high), (aI ca h0_low 1024 F_h0_low), (aJ ca h0_letGoWeight 1024 F_h0_letGoWeight), (aJ ca h0_holdWeight 1024 F_h0_holdWeight)] (oQl D (fun (r : Int64) (u : Unit) => True) (fun (u : Unit) => [(h0, .inr (0, [.ref h0_frees, .ref h0_low, .ref h0_high, .ref h0_letGoWeight, .ref h0_holdWeight, .ref h0_heardWith])), (aI ca h0_high 1024 F_h0_high), (aI ca h0_low 1024 F_h0_low), (aJ ca h0_letGoWeight 1024 F_h0_letGoWeight), (aJ ca h0_holdWeight 1024 F_h0_holdWeight)])) 0 0 := by
  refine oM (cc := cX0_freeWeight) (maxL := 6) (ret := (some .long)) (by decide) rfl (Nat.le_of_ble_eq_true rfl) [(0, .ref h0), (1, .int a1), (2, .int a2)] rfl ?_
  intro p e s m below meth c A H locs ls hx hb hr hml hts hown hlocks hin hK hP hD hA hS hl
  have hown : s.vm.findClass RX0 = some m.cls := hown
  have k1 := hts (.fieldLink RX0 22 "LidCourt$Bench" "letGoWeight" "[J") (by decide +kernel)
  have k2 : ∀ w ∈ wsX00, w ∈ wsX0_freeWeight := fun _ h => List.mem_cons_of_mem _ (List.mem_append_right _ h)
  have k3 := hts (.fieldLink RX0 26 "LidCourt$Bench" "holdWeight" "[J") (by decide +kernel)
  have J5_51 : ∀ (n : Nat) (y5_0 : Int64) (y5_1 : Int32), True → rg 0 1023 y5_1 → rl 0 y5_1 a1 → y5_1.toInt < 0 + (n : Int) → ∀ (H : Heap) (locs : List Loc) (ls : Array Slot), va_P D vwCl [(h0, .inr (0, [.ref h0_frees, .ref h0_low, .ref h0_high, .ref h0_letGoWeight, .ref h0_holdWeight, .ref h0_heardWith])), (aI ca h0_high 1024 F_h0_high), (aI ca h0_low 1024 F_h0_low), (aJ ca h0_letGoWeight 1024 F_h0_letGoWeight), (aJ ca h0_holdWeight 1024 F_h0_holdWeight)] H → va_D A [(h0, .inr (0, [.ref h0_frees, .ref h0_low, .ref h0_high, .ref h0_letGoWeight, .ref h0_holdWeight, .ref h0_heardWith])), (aI ca h0_high 1024 F_h0_high), (aI ca h0_low 1024 F_h0_low), (aJ ca h0_letGoWeight 1024 F_h0_letGoWeight), (aJ ca h0_holdWeight 1024 F_h0_holdWeight)] → va_S A s.heap H locs → lv_has ls 6 [(0, .ref h0), (1, .int a1), (2, .int a2), (3, .long y5_0), (5, .int y5_1)] → W p l e ({ frames := 1, cells := 0, slots := 0, locals := 21 } : Room) s m ([.ref h0, .int a1, .int a2] : List Value).toArray below meth c H locs 0 0 (MQ below ((oQl D (fun (r : Int64) (u : Unit) => True) (fun (u : Unit) => [(h0, .inr (0, [.ref h0_frees, .ref h0_low, .ref h0_high, .ref h0_letGoWeight, .ref h0_holdWeight, .ref h0_heardWith])), (aI ca h0_high 1024 F_h0_high), (aI ca h0_low 1024 F_h0_low), (aJ ca h0_letGoWeight 1024 F_h0_letGoWeight), (aJ ca h0_holdWeight 1024 F_h0_holdWeight)])) A) ([.ref h0, .int a1, .int a2] : List Value).toArray s 0 0 A) (F0 m 5 ls []) := by
    intro n
    induction n with
    | zero => intro y5_0 y5_1 _ hy5_1 qy5_1_a1 hn; exact absurd hn (by have q9 := hy5_1.1; omega)
    | succ n ih =>
      intro y5_0 y5_1 _ hy5_1 qy5_1_a1 hn H locs ls hP hD hS hl
      have J40_77 : ∀ (y40_0 : Int64), rg 1 1023 y5_1 → ∀ (H : Heap) (locs : List Loc) (ls : Array Slot), va_P D vwCl [(h0, .inr (0, [.ref h0_frees, .ref h0_low, .ref h0_high, .ref h0_letGoWeight, .ref h0_holdWeight, .ref h0_heardWith])), (aI ca h0_high 1024 F_h0_high), (aI ca h0_low 1024 F_h0_low), (aJ ca h0_letGoWeight 1024 F_h0_letGoWeight), (aJ ca h0_holdWeight 1024 F_h0_holdWeight)] H → va_D A [(h0, .inr (0, [.ref h0_frees, .ref h0_low, .ref h0_high, .ref h0_letGoWeight, .ref h0_holdWeight, .ref h0_heardWith])), (aI ca h0_high 1024 F_h0_high), (aI ca h0_low 1024 F_h0_low), (aJ ca h0_letGoWeight 1024 F_h0_letGoWeight), (aJ ca h0_holdWeight 1024 F_h0_holdWeight)] → va_S A s.heap H locs → lv_has ls 6 [(0, .ref h0), (1, .int a1), (2, .int a2), (3, .long y40_0), (5, .int y5_1)] → W p l e ({ frames := 1, cells := 0, slots := 0, locals := 21 } : Room) s m ([.ref h0, .int a1, .int a2] : List Value).toArray below meth c H locs 0 0 (MQ below ((oQl D (fun (r : Int64) (u : Unit) => True) (fun (u : Unit) => [(h0, .inr (0, [.ref h0_frees, .ref h0_low, .ref h0_high, .ref h0_letGoWeight, .ref h0_holdWeight, .ref h0_heardWith])), (aI ca h0_high 1024 F_h0_high), (aI ca h0_low 1024 F_h0_low), (aJ ca h0_letGoWeight 1024 F_h0_letGoWeight), (aJ ca h0_holdWeight 1024 F_h0_holdWeight)])) A) ([.ref h0, .int a1, .int a2] : List Value).toArray s 0 0 A) (F0 m 40 ls []) := by
        intro y40_0 t40_y5_1 H locs ls hP hD hS hl
        refine lv_iload hx hb dX0_freeWeight_40 (lv_at hl 4 rfl) ?_
        refine lv_iconst (v := 1) hx hb dX0_freeWeight_42 (by decide) ?_
        refine lv_isub hx hb dX0_freeWeight_43 ?_
        refine lv_topi (fun x_78 ex_78 => ?_)
        have h_79 : rg 0 1022 x_78 := by rw [ex_78]; exact rg_sub t40_y5_1 (⟨by decide, by decide⟩ : rg 1 1 (1 : Int32)) (by decide) (by decide) (by decide) (by decide)
        have l_80 : lq x_78.toInt (y5_1.toInt + (-1)) := lqm (by rw [ex_78]; have q := tsub t40_y5_1 (⟨by decide, by decide⟩ : rg 1 1 (1 : Int32)) (by decide) (by decide); have r1 := lqe (lqm (by decide) : lq (1 : Int32).toInt 1); omega)
        refine lv_iload_n hx hb dX0_freeWeight_44 rfl (lv_at hl 1 rfl) ?_
        refine lv_iand hx hb dX0_freeWeight_45 ?_
        refine lv_topi (fun x_81 ex_81 => ?_)
        have h_82 : rg 0 1022 x_81 := by rw [ex_81]; exact rg_and h_79 (by decide) (by decide) (by decide)
        have o_83 : rl 0 x_81 x_78 := by rw [ex_81]; exact rl_and h_79 (by decide)
        have o_84 : rl 0 x_81 a1 := by rw [ex_81]; exact rl_and' i_a1 (by decide)
        refine lv_istore (lv' := [(5, .int x_81), (0, .ref h0), (1, .int a1), (2, .int a2), (3, .long y40_0)]) hx hb dX0_freeWeight_46 hl (by decide) rfl (fun ls hl => ?_)
        refine lv_goto (tgt := 5) hx hb dX0_freeWeight_48 (by decide) ?_
        exact ih y40_0 x_81 trivial (rgw (lo := 0) (hi := 1023) h_82 (by decide) (by decide)) (rlm (by have q0 := rle o_83; have q1 := lqe l_80; have q2 := rle qy5_1_a1; omega)) (by have q0 := rle o_83; have q1 := lqe l_80; omega) H locs ls (oPsub hP [0, 1, 2, 3, 4] rfl) (hD.sub [0, 1, 2, 3, 4] (by decide) rfl) hS (lv_sub hl [1, 2, 3, 4, 0] rfl)
      refine lv_iload hx hb dX0_freeWeight_5 (lv_at hl 4 rfl) ?_
      refine lv_if_le (tgt := 51) hx hb dX0_freeWeight_7 (by decide) (fun c_85 => ?_) (fun c_85 => ?_)
      · skip
        have o_86 : rl 0 y5_1 0 := rl_le c_85
        have h_87 : rg 0 0 y5_1 := rl_x o_86 hy5_1 (⟨by decide, by decide⟩ : rg 0 0 (0 : Int32)) (by decide) (by decide)
        refine lv_lload_n hx hb dX0_freeWeight_51 rfl (lv_at hl 3 rfl) ?_
        exact oE_l hx hb hr hlocks hP hD hS () [0, 1, 2, 3, 4] rfl (by decide) trivial (Nat.le_of_ble_eq_true rfl) (Nat.le_of_ble_eq_true rfl) dX0_freeWeight_52
      · skip
        have o_88 : rl 1 0 y5_1 := rl_nle c_85
        have h_89 : rg 1 1023 y5_1 := rl_y o_88 (⟨by decide, by decide⟩ : rg 0 0 (0 : Int32)) hy5_1 (by decide) (by decide)
        refine lv_aload_n hx hb dX0_freeWeight_10 rfl (lv_at hl 0 rfl) ?_
        refine lv_iload hx hb dX0_freeWeight_11 (lv_at hl 4 rfl) ?_
        refine oC_i (Wc := [(h0, .inr (0, [.ref h0_frees, .ref h0_low, .ref h0_high, .ref h0_letGoWeight, .ref h0_holdWeight, .ref h0_heardWith])), (aI ca h0_high 1024 F_h0_high), (aI ca h0_low 1024 F_h0_low)]) (Wr := [(aJ ca h0_letGoWeight 1024 F_h0_letGoWeight), (aJ ca h0_holdWeight 1024 F_h0_holdWeight)]) (va_runV (As := [.int y5_1]) (rest := []) ⟨hx, hb, hml, hown, hts⟩ (s_X0_apart l D ca H.size h0 y5_1 h0_frees h0_low h0_high h0_letGoWeight h0_holdWeight h0_heardWith F_h0_high F_h0_low (rgw (lo := 0) (hi := 1023) h_89 (by decide) (by decide))) (cwV 1 hts gX0_freeWeight_X0_apart rfl rfl rfl (by decide +kernel) ⟨Nat.le_of_ble_eq_true rfl, Nat.le_of_ble_eq_true rfl⟩) (oPV (C := RX0) hK hP hD [0, 1, 2] rfl (by decide) 0 rfl (ci := 0) rfl rfl) rfl rfl hl.1 rfl (lv_room (Nat.le_of_ble_eq_true rfl)) dX0_freeWeight_13 ⟨Nat.le_of_ble_eq_true rfl, Nat.le_of_ble_eq_true rfl⟩) hP hD hS hA [0, 1, 2] [3, 4] rfl rfl (by decide) (by decide) (fun r_90 u H locs w_91 hP hD hS => ?_)
        obtain ⟨⟩ := u
        have hP : va_P D vwCl [(aJ ca h0_letGoWeight 1024 F_h0_letGoWeight), (aJ ca h0_holdWeight 1024 F_h0_holdWeight), (h0, .inr (0, [.ref h0_frees, .ref h0_low, .ref h0_high, .ref h0_letGoWeight, .ref h0_holdWeight, .ref h0_heardWith])), (aI ca h0_high 1024 F_h0_high), (aI ca h0_low 1024 F_h0_low)] H := hP
        have hD : va_D A [(aJ ca h0_letGoWeight 1024 F_h0_letGoWeight), (aJ ca h0_holdWeight 1024 F_h0_holdWeight), (h0, .inr (0, [.ref h0_frees, .ref h0_low, .ref h0_high, .ref h0_letGoWeight, .ref h0_holdWeight, .ref h0_heardWith])), (aI ca h0_high 1024 F_h0_high), (aI ca h0_low 1024 F_h0_low)] := hD
        try dsimp only at w_91
        refine lv_iload_n hx hb dX0_freeWeight_16 rfl (lv_at hl 2 rfl) ?_
        refine lv_icmp_gt (tgt := 40) hx hb dX0_freeWeight_17 (by decide) (fun c_92 => ?_) (fun c_92 => ?_)
        · skip
          have o_93 : rl 1 a2 r_90 := rl_lt c_92
          have h_94 : rg (-2147483648) 2147483646 a2 := rl_x o_93 (rga a2) (rga r_90) (by decide) (by decide)
          have h_95 : rg (-2147483647) 2147483647 r_90 := rl_y o_93 (rga a2) (rga r_90) (by decide) (by decide)
          exact J40_77 y5_0 h_89 H locs ls (oPsub hP [2, 3, 4, 0, 1] rfl) (hD.sub [2, 3, 4, 0, 1] (by decide) rfl) hS (lv_sub hl [0, 1, 2, 3, 4] rfl)
        · skip
          have o_96 : rl 0 r_90 a2 := rl_nlt c_92
          refine lv_lload_n hx hb dX0_freeWeight_20 rfl (lv_at hl 3 rfl) ?_
          refine lv_aload_n hx hb dX0_freeWeight_21 rfl (lv_at hl 0 rfl) ?_
          refine va_get (D := D) (ci := 0) (v := .ref h0_letGoWeight) (C := RX0) (T := TX0) (N := 6) hx hb hts k2 hown hK.1 hP 2 rfl rfl 3 (by decide) k1 (fun _ h9 => h9) rfl dX0_freeWeight_22 ?_
          refine lv_iload hx hb dX0_freeWeight_25 (lv_at hl 4 rfl) ?_
          refine va_lald hx hb hK.1 hP 0 1 rfl rfl (rg_in h_89 (by decide) (by decide)) dX0_freeWeight_27 ?_
          refine lv_topl (fun x_97 ex_97 => ?_)
          refine lv_aload_n hx hb dX0_freeWeight_28 rfl (lv_at hl 0 rfl) ?_
          refine va_get (D := D) (ci := 0) (v := .ref h0_holdWeight) (C := RX0) (T := TX0) (N := 6) hx hb hts k2 hown hK.1 hP 2 rfl rfl 4 (by decide) k3 (fun _ h9 => h9) rfl dX0_freeWeight_29 ?_
          refine lv_iload_n hx hb dX0_freeWeight_32 rfl (lv_at hl 1 rfl) ?_
          refine lv_iload hx hb dX0_freeWeight_33 (lv_at hl 4 rfl) ?_
          refine lv_ixor hx hb dX0_freeWeight_35 ?_
          refine lv_topi (fun x_98 ex_98 => ?_)
          have h_99 : rg 0 1023 x_98 := by rw [ex_98]; exact rg_xor 10 i_a1 h_89 (by decide) (by decide) (by decide) (by decide) (by decide) (by decide) (by decide)
          refine va_lald hx hb hK.1 hP 1 1 rfl rfl (rg_in h_99 (by decide) (by decide)) dX0_freeWeight_36 ?_
          refine lv_topl (fun x_100 ex_100 => ?_)
          refine lv_lmul hx hb dX0_freeWeight_37 ?_
          refine lv_topl (fun x_101 ex_101 => ?_)
          refine lv_ladd hx hb dX0_freeWeight_38 ?_
          refine lv_topl (fun x_102 ex_102 => ?_)
          refine lv_lstore_n (lv' := [(3, .long x_102), (0, .ref h0), (1, .int a1), (2, .int a2), (5, .int y5_1)]) hx hb dX0_freeWeight_39 rfl hl (by decide) rfl (fun ls hl => ?_)
          exact J40_77 x_102 h_89 H locs ls (oPsub hP [2, 3, 4, 0, 1] rfl) (hD.sub [2, 3, 4, 0, 1] (by decide) rfl) hS (lv_sub hl [1, 2, 3, 0, 4] rfl)
  refine lv_lconst (v := 0) hx hb dX0_freeWeight_0 (by decide) ?_
  refine lv_lstore_n (lv' := [(3, .long 0), (0, .ref h0), (1, .int a1), (2, .int a2)]) hx hb dX0_freeWeight_1 rfl hl (by decide) rfl (fun ls hl => ?_)
  refine lv_iload_n hx hb dX0_freeWeight_2 rfl (lv_at hl 2 rfl) ?_
  refine lv_istore (lv' := [(5, .int a1), (3, .long 0), (0, .ref h0), (1, .int a1), (2, .int a2)]) hx hb dX0_freeWeight_3 hl (by decide) rfl (fun ls hl => ?_)
  exact J5_51 1024 0 a1 trivial i_a1 (rlm (by omega)) (by have q0 := i_a1.2; omega) H locs ls (oPsub hP [0, 1, 2, 3, 4] rfl) (hD.sub [0, 1, 2, 3, 4] (by decide) rfl) hS (lv_sub hl [2, 3, 4, 1, 0] rfl)
theorem dX0_commonDivisor_0 : decode cX0_commonDivisor 0 = .ok (.lload_n 0, 1) := by decide +kernel
theorem dX0_commonDivisor_1 : decode cX0_commonDivisor 1 = .ok (.lstore 4, 2) := by decide +kernel
theorem dX0_commonDivisor_3 : decode cX0_commonDivisor 3 = .ok (.lload_n 2, 1) := by decide +kernel
theorem dX0_commonDivisor_4 : decode cX0_commonDivisor 4 = .ok (.lstore 6, 2) := by decide +kernel
theorem dX0_commonDivisor_6 : decode cX0_commonDivisor 6 = .ok (.iconst 0, 1) := by decide +kernel
theorem dX0_commonDivisor_7 : decode cX0_commonDivisor 7 = .ok (.istore 8, 2) := by decide +kernel
theorem dX0_commonDivisor_9 : decode cX0_commonDivisor 9 = .ok (.iload 8, 2) := by decide +kernel
theorem dX0_commonDivisor_11 : decode cX0_commonDivisor 11 = .ok (.sipush 200, 3) := by decide +kernel
theorem dX0_commonDivisor_14 : decode cX0_commonDivisor 14 = .ok (.if_icmp .ge 31, 3) := by decide +kernel
theorem dX0_commonDivisor_17 : decode cX0_commonDivisor 17 = .ok (.lload 6, 2) := by decide +kernel
theorem dX0_commonDivisor_19 : decode cX0_commonDivisor 19 = .ok (.lconst 0, 1) := by decide +kernel
theorem dX0_commonDivisor_20 : decode cX0_commonDivisor 20 = .ok (.lcmp, 1) := by decide +kernel
theorem dX0_commonDivisor_21 : decode cX0_commonDivisor 21 = .ok (.ifCond .eq 24, 3) := by decide +kernel
theorem dX0_commonDivisor_24 : decode cX0_commonDivisor 24 = .ok (.lload 4, 2) := by decide +kernel
theorem dX0_commonDivisor_26 : decode cX0_commonDivisor 26 = .ok (.lload 6, 2) := by decide +kernel
theorem dX0_commonDivisor_28 : decode cX0_commonDivisor 28 = .ok (.lrem, 1) := by decide +kernel
theorem dX0_commonDivisor_29 : decode cX0_commonDivisor 29 = .ok (.lstore 9, 2) := by decide +kernel
theorem dX0_commonDivisor_31 : decode cX0_commonDivisor 31 = .ok (.lload 6, 2) := by decide +kernel
theorem dX0_commonDivisor_33 : decode cX0_commonDivisor 33 = .ok (.lstore 4, 2) := by decide +kernel
theorem dX0_commonDivisor_35 : decode cX0_commonDivisor 35 = .ok (.lload 9, 2) := by decide +kernel
theorem dX0_commonDivisor_37 : decode cX0_commonDivisor 37 = .ok (.lstore 6, 2) := by decide +kernel
theorem dX0_commonDivisor_39 : decode cX0_commonDivisor 39 = .ok (.iinc 8 1, 3) := by decide +kernel
theorem dX0_commonDivisor_42 : decode cX0_commonDivisor 42 = .ok (.goto (-33), 3) := by decide +kernel
theorem dX0_commonDivisor_45 : decode cX0_commonDivisor 45 = .ok (.lload 4, 2) := by decide +kernel
theorem dX0_commonDivisor_47 : decode cX0_commonDivisor 47 = .ok (.lreturn, 1) := by decide +kernel
set_option maxHeartbeats 4000000 in
set_option maxRecDepth 100000 in
theorem s_X0_commonDivisor (l : Launch) (D : va_G) (ca : Nat → ClassId) (sz : Nat) (a1 : Int64) (a2 : Int64)  : oMet l yX0_commonDivisor wsX0_commonDivisor ({ frames := 0, cells := 0, slots := 0, locals := 0 } : Room) [.long a1, .long a2] D ca sz [] (oQl D (fun (r : Int64) (u : Unit) => True) (fun (u : Unit) => [])) 0 0 := by
  refine oM (cc := cX0_commonDivisor) (maxL := 11) (ret := (some .long)) (by decide) rfl (Nat.le_of_ble_eq_true rfl) [(0, .long a1), (2, .long a2)] rfl ?_
  intro p e s m below meth c A H locs ls hx hb hr hml hts hown hlocks hin hK hP hD hA hS hl
  have hown : s.vm.findClass RX0 = some m.cls := hown
  have J9_55 : ∀ (n : Nat) (y9_0 : Int64) (y9_1 : Int64) (y9_2 : Int32), True → rg 0 200 y9_2 → 200 < y9_2.toInt + (n : Int) → ∀ (H : Heap) (locs : List Loc) (ls : Array Slot), va_P D vwCl [] H → va_D A [] → va_S A s.heap H locs → lv_has ls 11 [(4, .long y9_0), (6, .long y9_1), (8, .int y9_2)] → W p l e ({ frames := 0, cells := 0, slots := 0, locals := 0 } : Room) s m ([.long a1, .long a2] : List Value).toArray below meth c H locs 0 0 (MQ below ((oQl D (fun (r : Int64) (u : Unit) => True) (fun (u : Unit) => [])) A) ([.long a1, .long a2] : List Value).toArray s 0 0 A) (F0 m 9 ls []) := by
    intro n
    induction n with
    | zero => intro y9_0 y9_1 y9_2 _ hy9_2 hn; exact absurd hn (by have q9 := hy9_2.2; omega)
    | succ n ih =>
      intro y9_0 y9_1 y9_2 _ hy9_2 hn H locs ls hP hD hS hl
      refine lv_iload hx hb dX0_commonDivisor_9 (lv_at hl 2 rfl) ?_
      refine lv_sipush (v := 200) hx hb dX0_commonDivisor_11 (by decide) ?_
      refine lv_icmp_ge (tgt := 45) hx hb dX0_commonDivisor_14 (by decide) (fun c_74 => ?_) (fun c_74 => ?_)
      · skip
        have o_75 : rl 0 200 y9_2 := rl_le c_74
        have h_76 : rg 200 200 y9_2 := rl_y o_75 (⟨by decide, by decide⟩ : rg 200 200 (200 : Int32)) hy9_2 (by decide) (by decide)
        refine lv_lload hx hb dX0_commonDivisor_45 (lv_at hl 0 rfl) ?_
        exact oE_l hx hb hr hlocks hP hD hS () [] rfl (by decide) trivial (Nat.le_of_ble_eq_true rfl) (Nat.le_of_ble_eq_true rfl) dX0_commonDivisor_47
      · skip
        have o_77 : rl 1 y9_2 200 := rl_nle c_74
        have h_78 : rg 0 199 y9_2 := rl_x o_77 hy9_2 (⟨by decide, by decide⟩ : rg 200 200 (200 : Int32)) (by decide) (by decide)
        refine lv_lload hx hb dX0_commonDivisor_17 (lv_at hl 1 rfl) ?_
        refine lv_lconst (v := 0) hx hb dX0_commonDivisor_19 (by decide) ?_
        refine W.lcmp hx hb dX0_commonDivisor_20 ?_
        refine lv_topi (fun x_79 ex_79 => ?_)
        refine lv_if_eq (tgt := 45) hx hb dX0_commonDivisor_21 (by decide) (fun c_80 => ?_) (fun c_80 => ?_)
        · skip
          have o_81 : rl 0 x_79 0 := rl_eq c_80
          have h_82 : rg (-2147483648) 0 x_79 := rl_x o_81 (rga x_79) (⟨by decide, by decide⟩ : rg 0 0 (0 : Int32)) (by decide) (by decide)
          have o_83 : rl 0 0 x_79 := rl_eq c_80.symm
          have h_84 : rg 0 0 x_79 := rl_y o_83 (⟨by decide, by decide⟩ : rg 0 0 (0 : Int32)) h_82 (by decide) (by decide)
          have h_85 : (y9_1 : Int64) = 0 := cmp_eq ex_79 c_80
          refine lv_lload hx hb dX0_commonDivisor_45 (lv_at hl 0 rfl) ?_
          exact oE_l hx hb hr hlocks hP hD hS () [] rfl (by decide) trivial (Nat.le_of_ble_eq_true rfl) (Nat.le_of_ble_eq_true rfl) dX0_commonDivisor_47
        · skip
          have h_86 : ¬ (y9_1 : Int64) = 0 := cmp_nn ex_79 c_80
          have z_87 : ¬ y9_1 = 0 := cmp_ne ex_79 c_80
          refine lv_lload hx hb dX0_commonDivisor_24 (lv_at hl 0 rfl) ?_
          refine lv_lload hx hb dX0_commonDivisor_26 (lv_at hl 1 rfl) ?_
          refine lv_lrem hx hb dX0_commonDivisor_28 z_87 ?_
          refine lv_topl (fun x_88 ex_88 => ?_)
          refine lv_lstore (lv' := [(9, .long x_88), (4, .long y9_0), (6, .long y9_1), (8, .int y9_2)]) hx hb dX0_commonDivisor_29 hl (by decide) rfl (fun ls hl => ?_)
          refine lv_lload hx hb dX0_commonDivisor_31 (lv_at hl 2 rfl) ?_
          refine lv_lstore (lv' := [(4, .long y9_1), (9, .long x_88), (6, .long y9_1), (8, .int y9_2)]) hx hb dX0_commonDivisor_33 hl (by decide) rfl (fun ls hl => ?_)
          refine lv_lload hx hb dX0_commonDivisor_35 (lv_at hl 1 rfl) ?_
          refine lv_lstore (lv' := [(6, .long x_88), (4, .long y9_1), (9, .long x_88), (8, .int y9_2)]) hx hb dX0_commonDivisor_37 hl (by decide) rfl (fun ls hl => ?_)
          obtain ⟨x_89, ex_89⟩ : ∃ y : Int32, y = y9_2 + 1 := ⟨_, rfl⟩
          have h_90 : rg 1 200 x_89 := by rw [ex_89]; exact rg_add h_78 (⟨by decide, by decide⟩ : rg 1 1 (1 : Int32)) (by decide) (by decide) (by decide) (by decide)
          have l_91 : lq x_89.toInt (y9_2.toInt + 1) := lqm (by rw [ex_89]; have q := tadd h_78 (⟨by decide, by decide⟩ : rg 1 1 (1 : Int32)) (by decide) (by decide); have r1 := lqe (lqm (by decide) : lq (1 : Int32).toInt 1); omega)
          refine lv_iinc (v := x_89) (lv' := [(8, .int x_89), (6, .long x_88), (4, .long y9_1), (9, .long x_88)]) hx hb dX0_commonDivisor_39 hl (k := 3) rfl (by rw [ex_89]; rfl) (by decide) rfl (fun ls hl => ?_)
          refine lv_goto (tgt := 9) hx hb dX0_commonDivisor_42 (by decide) ?_
          exact ih y9_1 x_88 x_89 trivial (rgw (lo := 0) (hi := 200) h_90 (by decide) (by decide)) (by have q0 := lqe l_91; omega) H locs ls (oPsub hP [] rfl) (hD.sub [] (by decide) rfl) hS (lv_sub hl [2, 1, 0] rfl)
  refine lv_lload_n hx hb dX0_commonDivisor_0 rfl (lv_at hl 0 rfl) ?_
  refine lv_lstore (lv' := [(4, .long a1), (0, .long a1), (2, .long a2)]) hx hb dX0_commonDivisor_1 hl (by decide) rfl (fun ls hl => ?_)
  refine lv_lload_n hx hb dX0_commonDivisor_3 rfl (lv_at hl 2 rfl) ?_
  refine lv_lstore (lv' := [(6, .long a2), (4, .long a1), (0, .long a1), (2, .long a2)]) hx hb dX0_commonDivisor_4 hl (by decide) rfl (fun ls hl => ?_)
  refine lv_iconst (v := 0) hx hb dX0_commonDivisor_6 (by decide) ?_
  refine lv_istore (lv' := [(8, .int 0), (6, .long a2), (4, .long a1), (0, .long a1), (2, .long a2)]) hx hb dX0_commonDivisor_7 hl (by decide) rfl (fun ls hl => ?_)
  exact J9_55 201 a1 a2 0 trivial (⟨by decide, by decide⟩ : rg 0 200 (0 : Int32)) (by have q0 := (⟨by decide, by decide⟩ : rg 0 0 (0 : Int32)).1; omega) H locs ls (oPsub hP [] rfl) (hD.sub [] (by decide) rfl) hS (lv_sub hl [2, 1, 0] rfl)
theorem dX0_partOfFreeWeight_0 : decode cX0_partOfFreeWeight 0 = .ok (.aload_n 0, 1) := by decide +kernel
theorem dX0_partOfFreeWeight_1 : decode cX0_partOfFreeWeight 1 = .ok (.iload_n 1, 1) := by decide +kernel
theorem dX0_partOfFreeWeight_2 : decode cX0_partOfFreeWeight 2 = .ok (.iload_n 2, 1) := by decide +kernel
theorem dX0_partOfFreeWeight_3 : decode cX0_partOfFreeWeight 3 = .ok (.invokevirtual 73, 3) := by decide +kernel
theorem dX0_partOfFreeWeight_6 : decode cX0_partOfFreeWeight 6 = .ok (.lstore 4, 2) := by decide +kernel
theorem dX0_partOfFreeWeight_8 : decode cX0_partOfFreeWeight 8 = .ok (.lconst 1, 1) := by decide +kernel
theorem dX0_partOfFreeWeight_9 : decode cX0_partOfFreeWeight 9 = .ok (.lstore 6, 2) := by decide +kernel
theorem dX0_partOfFreeWeight_11 : decode cX0_partOfFreeWeight 11 = .ok (.iconst 0, 1) := by decide +kernel
theorem dX0_partOfFreeWeight_12 : decode cX0_partOfFreeWeight 12 = .ok (.istore 8, 2) := by decide +kernel
theorem dX0_partOfFreeWeight_14 : decode cX0_partOfFreeWeight 14 = .ok (.iload 8, 2) := by decide +kernel
theorem dX0_partOfFreeWeight_16 : decode cX0_partOfFreeWeight 16 = .ok (.iload_n 1, 1) := by decide +kernel
theorem dX0_partOfFreeWeight_17 : decode cX0_partOfFreeWeight 17 = .ok (.invokestatic 65, 3) := by decide +kernel
theorem dX0_partOfFreeWeight_20 : decode cX0_partOfFreeWeight 20 = .ok (.if_icmp .ge 17, 3) := by decide +kernel
theorem dX0_partOfFreeWeight_23 : decode cX0_partOfFreeWeight 23 = .ok (.lload 6, 2) := by decide +kernel
theorem dX0_partOfFreeWeight_25 : decode cX0_partOfFreeWeight 25 = .ok (.ldc2_w 77, 3) := by decide +kernel
theorem dX0_partOfFreeWeight_28 : decode cX0_partOfFreeWeight 28 = .ok (.lmul, 1) := by decide +kernel
theorem dX0_partOfFreeWeight_29 : decode cX0_partOfFreeWeight 29 = .ok (.lstore 6, 2) := by decide +kernel
theorem dX0_partOfFreeWeight_31 : decode cX0_partOfFreeWeight 31 = .ok (.iinc 8 1, 3) := by decide +kernel
theorem dX0_partOfFreeWeight_34 : decode cX0_partOfFreeWeight 34 = .ok (.goto (-20), 3) := by decide +kernel
theorem dX0_partOfFreeWeight_37 : decode cX0_partOfFreeWeight 37 = .ok (.lload 4, 2) := by decide +kernel
theorem dX0_partOfFreeWeight_39 : decode cX0_partOfFreeWeight 39 = .ok (.lload 6, 2) := by decide +kernel
theorem dX0_partOfFreeWeight_41 : decode cX0_partOfFreeWeight 41 = .ok (.invokestatic 79, 3) := by decide +kernel
theorem dX0_partOfFreeWeight_44 : decode cX0_partOfFreeWeight 44 = .ok (.lstore 8, 2) := by decide +kernel
theorem dX0_partOfFreeWeight_46 : decode cX0_partOfFreeWeight 46 = .ok (.lload 8, 2) := by decide +kernel
theorem dX0_partOfFreeWeight_48 : decode cX0_partOfFreeWeight 48 = .ok (.lconst 0, 1) := by decide +kernel
theorem dX0_partOfFreeWeight_49 : decode cX0_partOfFreeWeight 49 = .ok (.lcmp, 1) := by decide +kernel
theorem dX0_partOfFreeWeight_50 : decode cX0_partOfFreeWeight 50 = .ok (.ifCond .ne 5, 3) := by decide +kernel
theorem dX0_partOfFreeWeight_53 : decode cX0_partOfFreeWeight 53 = .ok (.lconst 0, 1) := by decide +kernel
theorem dX0_partOfFreeWeight_54 : decode cX0_partOfFreeWeight 54 = .ok (.lreturn, 1) := by decide +kernel
theorem dX0_partOfFreeWeight_55 : decode cX0_partOfFreeWeight 55 = .ok (.iload_n 3, 1) := by decide +kernel
theorem dX0_partOfFreeWeight_56 : decode cX0_partOfFreeWeight 56 = .ok (.ifCond .ne 8, 3) := by decide +kernel
theorem dX0_partOfFreeWeight_59 : decode cX0_partOfFreeWeight 59 = .ok (.lload 4, 2) := by decide +kernel
theorem dX0_partOfFreeWeight_61 : decode cX0_partOfFreeWeight 61 = .ok (.goto 5, 3) := by decide +kernel
theorem dX0_partOfFreeWeight_64 : decode cX0_partOfFreeWeight 64 = .ok (.lload 6, 2) := by decide +kernel
theorem dX0_partOfFreeWeight_66 : decode cX0_partOfFreeWeight 66 = .ok (.lload 8, 2) := by decide +kernel
theorem dX0_partOfFreeWeight_68 : decode cX0_partOfFreeWeight 68 = .ok (.ldiv, 1) := by decide +kernel
theorem dX0_partOfFreeWeight_69 : decode cX0_partOfFreeWeight 69 = .ok (.lreturn, 1) := by decide +kernel
set_option maxRecDepth 20000 in
theorem ggX0_partOfFreeWeight_X0_freeWeight : GoodIn wsX0_partOfFreeWeight wsX0_freeWeight := goodIn_r _ [6, 7, 8, 9, 10, 11, 5, 12, 13, 14, 25, 26, 27, 28, 29, 30] rfl (by decide +kernel)
set_option maxRecDepth 20000 in
theorem gX0_partOfFreeWeight_X0_freeWeight : GoodIn wsX0_partOfFreeWeight (wsV RX0 73 RX0 yX0_freeWeight wsX0_freeWeight) := goodIn_app (goodIn_of _ (by decide +kernel)) ggX0_partOfFreeWeight_X0_freeWeight
set_option maxRecDepth 20000 in
theorem ggX0_partOfFreeWeight_J6_bitCount_0f7a4 : GoodIn wsX0_partOfFreeWeight wsJ6_bitCount_0f7a4 := goodIn_r _ [18, 19, 20, 21] rfl (by decide +kernel)
set_option maxRecDepth 20000 in
theorem gX0_partOfFreeWeight_J6_bitCount_0f7a4 : GoodIn wsX0_partOfFreeWeight (va_wsS RX0 65 yJ6_bitCount_0f7a4 wsJ6_bitCount_0f7a4) := goodIn_app (goodIn_of _ (by decide +kernel)) ggX0_partOfFreeWeight_J6_bitCount_0f7a4
set_option maxRecDepth 20000 in
theorem ggX0_partOfFreeWeight_X0_commonDivisor : GoodIn wsX0_partOfFreeWeight wsX0_commonDivisor := goodIn_r _ [24] rfl (by decide +kernel)
set_option maxRecDepth 20000 in
theorem gX0_partOfFreeWeight_X0_commonDivisor : GoodIn wsX0_partOfFreeWeight (va_wsS RX0 79 yX0_commonDivisor wsX0_commonDivisor) := goodIn_app (goodIn_of _ (by decide +kernel)) ggX0_partOfFreeWeight_X0_commonDivisor
set_option maxHeartbeats 4000000 in
set_option maxRecDepth 100000 in
theorem s_X0_partOfFreeWeight (l : Launch) (D : va_G) (ca : Nat → ClassId) (sz : Nat) (h0 : Nat) (a1 : Int32) (a2 : Int32) (a3 : Int32) (h0_frees : Nat) (h0_low : Nat) (h0_high : Nat) (h0_letGoWeight : Nat) (h0_holdWeight : Nat) (h0_heardWith : Nat) (F_h0_high : Nat → Int32) (F_h0_low : Nat → Int32) (F_h0_letGoWeight : Nat → Int64) (F_h0_holdWeight : Nat → Int64) (i_a1 : rg 0 1023 a1) : oMet l yX0_partOfFreeWeight wsX0_partOfFreeWeight ({ frames := 2, cells := 0, slots := 0, locals := 46 } : Room) [.ref h0, .int a1, .int a2, .int a3] D ca sz [(h0, .inr (0, [.ref h0_frees, .ref h0_low, .ref h0_high, .ref h0_letGoWeight, .ref h0_holdWeight, .ref h0_heardWith])), (aI ca h0_high 1024 F_h0_high), (aI ca h0_low 1024 F_h0_low), (aJ ca h0_letGoWeight 1024 F_h0_letGoWeight), (aJ ca h0_holdWeight 1024 F_h0_holdWeight)] (oQl D (fun (r : Int64) (u : Unit) => True) (fun (u : Unit) => [(h0, .inr (0, [.ref h0_frees, .ref h0_low, .ref h0_high, .ref h0_letGoWeight, .ref h0_holdWeight, .ref h0_heardWith])), (aI ca h0_high 1024 F_h0_high), (aI ca h0_low 1024 F_h0_low), (aJ ca h0_letGoWeight 1024 F_h0_letGoWeight), (aJ ca h0_holdWeight 1024 F_h0_holdWeight)])) 0 0 := by
  refine oM (cc := cX0_partOfFreeWeight) (maxL := 10) (ret := (some .long)) (by decide) rfl (Nat.le_of_ble_eq_true rfl) [(0, .ref h0), (1, .int a1), (2, .int a2), (3, .int a3)] rfl ?_
  intro p e s m below meth c A H locs ls hx hb hr hml hts hown hlocks hin hK hP hD hA hS hl
  have hown : s.vm.findClass RX0 = some m.cls := hown
  have k1 := hts (.constantLong RX0 77 12) (by decide +kernel)
  have J14_89 : ∀ (n : Nat) (y14_0 : Int64) (y14_1 : Int64) (y14_2 : Int32), True → rg 0 1023 y14_2 → 1023 < y14_2.toInt + (n : Int) → ∀ (H : Heap) (locs : List Loc) (ls : Array Slot), va_P D vwCl [(h0, .inr (0, [.ref h0_frees, .ref h0_low, .ref h0_high, .ref h0_letGoWeight, .ref h0_holdWeight, .ref h0_heardWith])), (aI ca h0_high 1024 F_h0_high), (aI ca h0_low 1024 F_h0_low), (aJ ca h0_letGoWeight 1024 F_h0_letGoWeight), (aJ ca h0_holdWeight 1024 F_h0_holdWeight)] H → va_D A [(h0, .inr (0, [.ref h0_frees, .ref h0_low, .ref h0_high, .ref h0_letGoWeight, .ref h0_holdWeight, .ref h0_heardWith])), (aI ca h0_high 1024 F_h0_high), (aI ca h0_low 1024 F_h0_low), (aJ ca h0_letGoWeight 1024 F_h0_letGoWeight), (aJ ca h0_holdWeight 1024 F_h0_holdWeight)] → va_S A s.heap H locs → lv_has ls 10 [(1, .int a1), (3, .int a3), (4, .long y14_0), (6, .long y14_1), (8, .int y14_2)] → W p l e ({ frames := 2, cells := 0, slots := 0, locals := 46 } : Room) s m ([.ref h0, .int a1, .int a2, .int a3] : List Value).toArray below meth c H locs 0 0 (MQ below ((oQl D (fun (r : Int64) (u : Unit) => True) (fun (u : Unit) => [(h0, .inr (0, [.ref h0_frees, .ref h0_low, .ref h0_high, .ref h0_letGoWeight, .ref h0_holdWeight, .ref h0_heardWith])), (aI ca h0_high 1024 F_h0_high), (aI ca h0_low 1024 F_h0_low), (aJ ca h0_letGoWeight 1024 F_h0_letGoWeight), (aJ ca h0_holdWeight 1024 F_h0_holdWeight)])) A) ([.ref h0, .int a1, .int a2, .int a3] : List Value).toArray s 0 0 A) (F0 m 14 ls []) := by
    intro n
    induction n with
    | zero => intro y14_0 y14_1 y14_2 _ hy14_2 hn; exact absurd hn (by have q9 := hy14_2.2; omega)
    | succ n ih =>
      intro y14_0 y14_1 y14_2 _ hy14_2 hn H locs ls hP hD hS hl
      refine lv_iload hx hb dX0_partOfFreeWeight_14 (lv_at hl 4 rfl) ?_
      refine lv_iload_n hx hb dX0_partOfFreeWeight_16 rfl (lv_at hl 0 rfl) ?_
      refine oC_i (Wc := []) (Wr := [(h0, .inr (0, [.ref h0_frees, .ref h0_low, .ref h0_high, .ref h0_letGoWeight, .ref h0_holdWeight, .ref h0_heardWith])), (aI ca h0_high 1024 F_h0_high), (aI ca h0_low 1024 F_h0_low), (aJ ca h0_letGoWeight 1024 F_h0_letGoWeight), (aJ ca h0_holdWeight 1024 F_h0_holdWeight)]) (va_runS (As := [.int a1]) (rest := [.int y14_2]) ⟨hx, hb, hml, hown, hts⟩ (s_J6_bitCount_0f7a4 l D ca H.size a1) (va_cwS 1 hts gX0_partOfFreeWeight_J6_bitCount_0f7a4 rfl rfl rfl (by decide +kernel) ⟨Nat.le_of_ble_eq_true rfl, Nat.le_of_ble_eq_true rfl⟩) (oPS hK hP hD [] rfl (by decide)) rfl rfl hl.1 rfl (lv_room (Nat.le_of_ble_eq_true rfl)) dX0_partOfFreeWeight_17 ⟨Nat.le_of_ble_eq_true rfl, Nat.le_of_ble_eq_true rfl⟩) hP hD hS hA [] [0, 1, 2, 3, 4] rfl rfl (by decide) (by decide) (fun r_120 u H locs w_121 hP hD hS => ?_)
      obtain ⟨⟩ := u
      have hP : va_P D vwCl [(h0, .inr (0, [.ref h0_frees, .ref h0_low, .ref h0_high, .ref h0_letGoWeight, .ref h0_holdWeight, .ref h0_heardWith])), (aI ca h0_high 1024 F_h0_high), (aI ca h0_low 1024 F_h0_low), (aJ ca h0_letGoWeight 1024 F_h0_letGoWeight), (aJ ca h0_holdWeight 1024 F_h0_holdWeight)] H := hP
      have hD : va_D A [(h0, .inr (0, [.ref h0_frees, .ref h0_low, .ref h0_high, .ref h0_letGoWeight, .ref h0_holdWeight, .ref h0_heardWith])), (aI ca h0_high 1024 F_h0_high), (aI ca h0_low 1024 F_h0_low), (aJ ca h0_letGoWeight 1024 F_h0_letGoWeight), (aJ ca h0_holdWeight 1024 F_h0_holdWeight)] := hD
      try dsimp only at w_121
      have h_122 := w_121
      refine lv_icmp_ge (tgt := 37) hx hb dX0_partOfFreeWeight_20 (by decide) (fun c_123 => ?_) (fun c_123 => ?_)
      · skip
        have o_124 : rl 0 r_120 y14_2 := rl_le c_123
        refine lv_lload hx hb dX0_partOfFreeWeight_37 (lv_at hl 2 rfl) ?_
        refine lv_lload hx hb dX0_partOfFreeWeight_39 (lv_at hl 3 rfl) ?_
        refine oC_l (Wc := []) (Wr := [(h0, .inr (0, [.ref h0_frees, .ref h0_low, .ref h0_high, .ref h0_letGoWeight, .ref h0_holdWeight, .ref h0_heardWith])), (aI ca h0_high 1024 F_h0_high), (aI ca h0_low 1024 F_h0_low), (aJ ca h0_letGoWeight 1024 F_h0_letGoWeight), (aJ ca h0_holdWeight 1024 F_h0_holdWeight)]) (va_runS (As := [.long y14_0, .long y14_1]) (rest := []) ⟨hx, hb, hml, hown, hts⟩ (s_X0_commonDivisor l D ca H.size y14_0 y14_1) (va_cwS 2 hts gX0_partOfFreeWeight_X0_commonDivisor rfl rfl rfl (by decide +kernel) ⟨Nat.le_of_ble_eq_true rfl, Nat.le_of_ble_eq_true rfl⟩) (oPS hK hP hD [] rfl (by decide)) rfl rfl hl.1 rfl (lv_room (Nat.le_of_ble_eq_true rfl)) dX0_partOfFreeWeight_41 ⟨Nat.le_of_ble_eq_true rfl, Nat.le_of_ble_eq_true rfl⟩) hP hD hS hA [] [0, 1, 2, 3, 4] rfl rfl (by decide) (by decide) (fun r_125 u H locs w_126 hP hD hS => ?_)
        obtain ⟨⟩ := u
        have hP : va_P D vwCl [(h0, .inr (0, [.ref h0_frees, .ref h0_low, .ref h0_high, .ref h0_letGoWeight, .ref h0_holdWeight, .ref h0_heardWith])), (aI ca h0_high 1024 F_h0_high), (aI ca h0_low 1024 F_h0_low), (aJ ca h0_letGoWeight 1024 F_h0_letGoWeight), (aJ ca h0_holdWeight 1024 F_h0_holdWeight)] H := hP
        have hD : va_D A [(h0, .inr (0, [.ref h0_frees, .ref h0_low, .ref h0_high, .ref h0_letGoWeight, .ref h0_holdWeight, .ref h0_heardWith])), (aI ca h0_high 1024 F_h0_high), (aI ca h0_low 1024 F_h0_low), (aJ ca h0_letGoWeight 1024 F_h0_letGoWeight), (aJ ca h0_holdWeight 1024 F_h0_holdWeight)] := hD
        try dsimp only at w_126
        refine lv_lstore (lv' := [(8, .long r_125), (1, .int a1), (3, .int a3), (4, .long y14_0), (6, .long y14_1)]) hx hb dX0_partOfFreeWeight_44 hl (by decide) rfl (fun ls hl => ?_)
        refine lv_lload hx hb dX0_partOfFreeWeight_46 (lv_at hl 0 rfl) ?_
        refine lv_lconst (v := 0) hx hb dX0_partOfFreeWeight_48 (by decide) ?_
        refine W.lcmp hx hb dX0_partOfFreeWeight_49 ?_
        refine lv_topi (fun x_127 ex_127 => ?_)
        refine lv_if_ne (tgt := 55) hx hb dX0_partOfFreeWeight_50 (by decide) (fun c_128 => ?_) (fun c_128 => ?_)
        · skip
          have h_129 : ¬ (r_125 : Int64) = 0 := cmp_nn ex_127 c_128
          have z_130 : ¬ r_125 = 0 := cmp_ne ex_127 c_128
          refine lv_iload_n hx hb dX0_partOfFreeWeight_55 rfl (lv_at hl 2 rfl) ?_
          refine lv_if_ne (tgt := 64) hx hb dX0_partOfFreeWeight_56 (by decide) (fun c_131 => ?_) (fun c_131 => ?_)
          · skip
            refine lv_lload hx hb dX0_partOfFreeWeight_64 (lv_at hl 4 rfl) ?_
            refine lv_lload hx hb dX0_partOfFreeWeight_66 (lv_at hl 0 rfl) ?_
            refine lv_ldiv hx hb dX0_partOfFreeWeight_68 z_130 ?_
            refine lv_topl (fun x_132 ex_132 => ?_)
            exact oE_l hx hb hr hlocks hP hD hS () [0, 1, 2, 3, 4] rfl (by decide) trivial (Nat.le_of_ble_eq_true rfl) (Nat.le_of_ble_eq_true rfl) dX0_partOfFreeWeight_69
          · skip
            have o_133 : rl 0 a3 0 := rl_eq c_131
            have h_134 : rg (-2147483648) 0 a3 := rl_x o_133 (rga a3) (⟨by decide, by decide⟩ : rg 0 0 (0 : Int32)) (by decide) (by decide)
            have o_135 : rl 0 0 a3 := rl_eq c_131.symm
            have h_136 : rg 0 0 a3 := rl_y o_135 (⟨by decide, by decide⟩ : rg 0 0 (0 : Int32)) h_134 (by decide) (by decide)
            refine lv_lload hx hb dX0_partOfFreeWeight_59 (lv_at hl 3 rfl) ?_
            refine lv_goto (tgt := 66) hx hb dX0_partOfFreeWeight_61 (by decide) ?_
            refine lv_lload hx hb dX0_partOfFreeWeight_66 (lv_at hl 0 rfl) ?_
            refine lv_ldiv hx hb dX0_partOfFreeWeight_68 z_130 ?_
            refine lv_topl (fun x_137 ex_137 => ?_)
            exact oE_l hx hb hr hlocks hP hD hS () [0, 1, 2, 3, 4] rfl (by decide) trivial (Nat.le_of_ble_eq_true rfl) (Nat.le_of_ble_eq_true rfl) dX0_partOfFreeWeight_69
        · skip
          have o_138 : rl 0 x_127 0 := rl_eq c_128
          have h_139 : rg (-2147483648) 0 x_127 := rl_x o_138 (rga x_127) (⟨by decide, by decide⟩ : rg 0 0 (0 : Int32)) (by decide) (by decide)
          have o_140 : rl 0 0 x_127 := rl_eq c_128.symm
          have h_141 : rg 0 0 x_127 := rl_y o_140 (⟨by decide, by decide⟩ : rg 0 0 (0 : Int32)) h_139 (by decide) (by decide)
          have h_142 : (r_125 : Int64) = 0 := cmp_eq ex_127 c_128
          refine lv_lconst (v := 0) hx hb dX0_partOfFreeWeight_53 (by decide) ?_
          exact oE_l hx hb hr hlocks hP hD hS () [0, 1, 2, 3, 4] rfl (by decide) trivial (Nat.le_of_ble_eq_true rfl) (Nat.le_of_ble_eq_true rfl) dX0_partOfFreeWeight_54
      · skip
        have o_143 : rl 1 y14_2 r_120 := rl_nle c_123
        have h_144 : rg 0 62 y14_2 := rl_x o_143 hy14_2 h_122 (by decide) (by decide)
        have h_145 : rg 1 63 r_120 := rl_y o_143 hy14_2 h_122 (by decide) (by decide)
        refine lv_lload hx hb dX0_partOfFreeWeight_23 (lv_at hl 3 rfl) ?_
        refine lv_ldc2 (v := 12) hx hb hown k1 dX0_partOfFreeWeight_25 ?_
        refine lv_lmul hx hb dX0_partOfFreeWeight_28 ?_
        refine lv_topl (fun x_146 ex_146 => ?_)
        refine lv_lstore (lv' := [(6, .long x_146), (1, .int a1), (3, .int a3), (4, .long y14_0), (8, .int y14_2)]) hx hb dX0_partOfFreeWeight_29 hl (by decide) rfl (fun ls hl => ?_)
        obtain ⟨x_147, ex_147⟩ : ∃ y : Int32, y = y14_2 + 1 := ⟨_, rfl⟩
        have h_148 : rg 1 63 x_147 := by rw [ex_147]; exact rg_add h_144 (⟨by decide, by decide⟩ : rg 1 1 (1 : Int32)) (by decide) (by decide) (by decide) (by decide)
        have l_149 : lq x_147.toInt (y14_2.toInt + 1) := lqm (by rw [ex_147]; have q := tadd h_144 (⟨by decide, by decide⟩ : rg 1 1 (1 : Int32)) (by decide) (by decide); have r1 := lqe (lqm (by decide) : lq (1 : Int32).toInt 1); omega)
        refine lv_iinc (v := x_147) (lv' := [(8, .int x_147), (6, .long x_146), (1, .int a1), (3, .int a3), (4, .long y14_0)]) hx hb dX0_partOfFreeWeight_31 hl (k := 4) rfl (by rw [ex_147]; rfl) (by decide) rfl (fun ls hl => ?_)
        refine lv_goto (tgt := 14) hx hb dX0_partOfFreeWeight_34 (by decide) ?_
        exact ih y14_0 x_146 x_147 trivial (rgw (lo := 0) (hi := 1023) h_148 (by decide) (by decide)) (by have q0 := lqe l_149; omega) H locs ls (oPsub hP [0, 1, 2, 3, 4] rfl) (hD.sub [0, 1, 2, 3, 4] (by decide) rfl) hS (lv_sub hl [2, 3, 4, 1, 0] rfl)
  refine lv_aload_n hx hb dX0_partOfFreeWeight_0 rfl (lv_at hl 0 rfl) ?_
  refine lv_iload_n hx hb dX0_partOfFreeWeight_1 rfl (lv_at hl 1 rfl) ?_
  refine lv_iload_n hx hb dX0_partOfFreeWeight_2 rfl (lv_at hl 2 rfl) ?_
  refine oC_l (Wc := [(h0, .inr (0, [.ref h0_frees, .ref h0_low, .ref h0_high, .ref h0_letGoWeight, .ref h0_holdWeight, .ref h0_heardWith])), (aI ca h0_high 1024 F_h0_high), (aI ca h0_low 1024 F_h0_low), (aJ ca h0_letGoWeight 1024 F_h0_letGoWeight), (aJ ca h0_holdWeight 1024 F_h0_holdWeight)]) (Wr := []) (va_runV (As := [.int a1, .int a2]) (rest := []) ⟨hx, hb, hml, hown, hts⟩ (s_X0_freeWeight l D ca H.size h0 a1 a2 h0_frees h0_low h0_high h0_letGoWeight h0_holdWeight h0_heardWith F_h0_high F_h0_low F_h0_letGoWeight F_h0_holdWeight i_a1) (cwV 2 hts gX0_partOfFreeWeight_X0_freeWeight rfl rfl rfl (by decide +kernel) ⟨Nat.le_of_ble_eq_true rfl, Nat.le_of_ble_eq_true rfl⟩) (oPV (C := RX0) hK hP hD [0, 1, 2, 3, 4] rfl (by decide) 0 rfl (ci := 0) rfl rfl) rfl rfl hl.1 rfl (lv_room (Nat.le_of_ble_eq_true rfl)) dX0_partOfFreeWeight_3 ⟨Nat.le_of_ble_eq_true rfl, Nat.le_of_ble_eq_true rfl⟩) hP hD hS hA [0, 1, 2, 3, 4] [] rfl rfl (by decide) (by decide) (fun r_150 u H locs w_151 hP hD hS => ?_)
  obtain ⟨⟩ := u
  have hP : va_P D vwCl [(h0, .inr (0, [.ref h0_frees, .ref h0_low, .ref h0_high, .ref h0_letGoWeight, .ref h0_holdWeight, .ref h0_heardWith])), (aI ca h0_high 1024 F_h0_high), (aI ca h0_low 1024 F_h0_low), (aJ ca h0_letGoWeight 1024 F_h0_letGoWeight), (aJ ca h0_holdWeight 1024 F_h0_holdWeight)] H := hP
  have hD : va_D A [(h0, .inr (0, [.ref h0_frees, .ref h0_low, .ref h0_high, .ref h0_letGoWeight, .ref h0_holdWeight, .ref h0_heardWith])), (aI ca h0_high 1024 F_h0_high), (aI ca h0_low 1024 F_h0_low), (aJ ca h0_letGoWeight 1024 F_h0_letGoWeight), (aJ ca h0_holdWeight 1024 F_h0_holdWeight)] := hD
  try dsimp only at w_151
  refine lv_lstore (lv' := [(4, .long r_150), (0, .ref h0), (1, .int a1), (2, .int a2), (3, .int a3)]) hx hb dX0_partOfFreeWeight_6 hl (by decide) rfl (fun ls hl => ?_)
  refine lv_lconst (v := 1) hx hb dX0_partOfFreeWeight_8 (by decide) ?_
  refine lv_lstore (lv' := [(6, .long 1), (4, .long r_150), (0, .ref h0), (1, .int a1), (2, .int a2), (3, .int a3)]) hx hb dX0_partOfFreeWeight_9 hl (by decide) rfl (fun ls hl => ?_)
  refine lv_iconst (v := 0) hx hb dX0_partOfFreeWeight_11 (by decide) ?_
  refine lv_istore (lv' := [(8, .int 0), (6, .long 1), (4, .long r_150), (0, .ref h0), (1, .int a1), (2, .int a2), (3, .int a3)]) hx hb dX0_partOfFreeWeight_12 hl (by decide) rfl (fun ls hl => ?_)
  exact J14_89 1024 r_150 1 0 trivial (⟨by decide, by decide⟩ : rg 0 1023 (0 : Int32)) (by have q0 := (⟨by decide, by decide⟩ : rg 0 0 (0 : Int32)).1; omega) H locs ls (oPsub hP [0, 1, 2, 3, 4] rfl) (hD.sub [0, 1, 2, 3, 4] (by decide) rfl) hS (lv_sub hl [4, 6, 2, 1, 0] rfl)
theorem dX0_likeliest_0 : decode cX0_likeliest 0 = .ok (.iconst 0, 1) := by decide +kernel
theorem dX0_likeliest_1 : decode cX0_likeliest 1 = .ok (.istore_n 3, 1) := by decide +kernel
theorem dX0_likeliest_2 : decode cX0_likeliest 2 = .ok (.ldc2_w 71, 3) := by decide +kernel
theorem dX0_likeliest_5 : decode cX0_likeliest 5 = .ok (.lstore 4, 2) := by decide +kernel
theorem dX0_likeliest_7 : decode cX0_likeliest 7 = .ok (.iconst 1, 1) := by decide +kernel
theorem dX0_likeliest_8 : decode cX0_likeliest 8 = .ok (.istore 6, 2) := by decide +kernel
theorem dX0_likeliest_10 : decode cX0_likeliest 10 = .ok (.iload 6, 2) := by decide +kernel
theorem dX0_likeliest_12 : decode cX0_likeliest 12 = .ok (.iconst 1, 1) := by decide +kernel
theorem dX0_likeliest_13 : decode cX0_likeliest 13 = .ok (.aload_n 1, 1) := by decide +kernel
theorem dX0_likeliest_14 : decode cX0_likeliest 14 = .ok (.getfield 32, 3) := by decide +kernel
theorem dX0_likeliest_17 : decode cX0_likeliest 17 = .ok (.ishl, 1) := by decide +kernel
theorem dX0_likeliest_18 : decode cX0_likeliest 18 = .ok (.if_icmp .ge 45, 3) := by decide +kernel
theorem dX0_likeliest_21 : decode cX0_likeliest 21 = .ok (.iload 6, 2) := by decide +kernel
theorem dX0_likeliest_23 : decode cX0_likeliest 23 = .ok (.invokestatic 65, 3) := by decide +kernel
theorem dX0_likeliest_26 : decode cX0_likeliest 26 = .ok (.iload_n 2, 1) := by decide +kernel
theorem dX0_likeliest_27 : decode cX0_likeliest 27 = .ok (.if_icmp .ne 30, 3) := by decide +kernel
theorem dX0_likeliest_30 : decode cX0_likeliest 30 = .ok (.aload_n 0, 1) := by decide +kernel
theorem dX0_likeliest_31 : decode cX0_likeliest 31 = .ok (.iload 6, 2) := by decide +kernel
theorem dX0_likeliest_33 : decode cX0_likeliest 33 = .ok (.aload_n 1, 1) := by decide +kernel
theorem dX0_likeliest_34 : decode cX0_likeliest 34 = .ok (.getfield 62, 3) := by decide +kernel
theorem dX0_likeliest_37 : decode cX0_likeliest 37 = .ok (.invokevirtual 73, 3) := by decide +kernel
theorem dX0_likeliest_40 : decode cX0_likeliest 40 = .ok (.lstore 7, 2) := by decide +kernel
theorem dX0_likeliest_42 : decode cX0_likeliest 42 = .ok (.lload 7, 2) := by decide +kernel
theorem dX0_likeliest_44 : decode cX0_likeliest 44 = .ok (.lload 4, 2) := by decide +kernel
theorem dX0_likeliest_46 : decode cX0_likeliest 46 = .ok (.lcmp, 1) := by decide +kernel
theorem dX0_likeliest_47 : decode cX0_likeliest 47 = .ok (.ifCond .le 10, 3) := by decide +kernel
theorem dX0_likeliest_50 : decode cX0_likeliest 50 = .ok (.lload 7, 2) := by decide +kernel
theorem dX0_likeliest_52 : decode cX0_likeliest 52 = .ok (.lstore 4, 2) := by decide +kernel
theorem dX0_likeliest_54 : decode cX0_likeliest 54 = .ok (.iload 6, 2) := by decide +kernel
theorem dX0_likeliest_56 : decode cX0_likeliest 56 = .ok (.istore_n 3, 1) := by decide +kernel
theorem dX0_likeliest_57 : decode cX0_likeliest 57 = .ok (.iinc 6 1, 3) := by decide +kernel
theorem dX0_likeliest_60 : decode cX0_likeliest 60 = .ok (.goto (-50), 3) := by decide +kernel
theorem dX0_likeliest_63 : decode cX0_likeliest 63 = .ok (.iload_n 3, 1) := by decide +kernel
theorem dX0_likeliest_64 : decode cX0_likeliest 64 = .ok (.ireturn, 1) := by decide +kernel
set_option maxRecDepth 20000 in
theorem ggX0_likeliest_J6_bitCount_0f7a4 : GoodIn wsX0_likeliest wsJ6_bitCount_0f7a4 := goodIn_r _ [7, 8, 9, 10] rfl (by decide +kernel)
set_option maxRecDepth 20000 in
theorem gX0_likeliest_J6_bitCount_0f7a4 : GoodIn wsX0_likeliest (va_wsS RX0 65 yJ6_bitCount_0f7a4 wsJ6_bitCount_0f7a4) := goodIn_app (goodIn_of _ (by decide +kernel)) ggX0_likeliest_J6_bitCount_0f7a4
set_option maxRecDepth 20000 in
theorem ggX0_likeliest_X0_freeWeight : GoodIn wsX0_likeliest wsX0_freeWeight := goodIn_r _ [15, 16, 17, 18, 19, 20, 14, 21, 22, 23, 40, 41, 42, 43, 44, 45] rfl (by decide +kernel)
set_option maxRecDepth 20000 in
theorem gX0_likeliest_X0_freeWeight : GoodIn wsX0_likeliest (wsV RX0 73 RX0 yX0_freeWeight wsX0_freeWeight) := goodIn_app (goodIn_of _ (by decide +kernel)) ggX0_likeliest_X0_freeWeight
set_option maxHeartbeats 4000000 in
set_option maxRecDepth 100000 in
theorem s_X0_likeliest (l : Launch) (D : va_G) (ca : Nat → ClassId) (sz : Nat) (h0 : Nat) (r1 : Nat) (a2 : Int32) (h0_frees : Nat) (h0_low : Nat) (h0_high : Nat) (h0_letGoWeight : Nat) (h0_holdWeight : Nat) (h0_heardWith : Nat) (r1_jurors : Int32) (r1_floors : Int32) (r1_cases : Int32) (r1_one : Int32) (r1_dent : Int32) (r1_seated : Int32) (r1_jurorName : Nat) (r1_floorName : Nat) (r1_caseName : Nat) (r1_pitch : Nat) (r1_length : Nat) (r1_hands : Nat) (r1_tune : Nat) (r1_dull : Nat) (r1_caseFloor : Nat) (r1_tuned : Nat) (F_h0_high : Nat → Int32) (F_h0_low : Nat → Int32) (F_h0_letGoWeight : Nat → Int64) (F_h0_holdWeight : Nat → Int64) (i_r1_jurors : rg 0 10 r1_jurors) (i_r1_floors : rg 0 4 r1_floors) (i_r1_cases : rg 0 5 r1_cases) (i_r1_seated : rg 0 1023 r1_seated) : oMet l yX0_likeliest wsX0_likeliest ({ frames := 2, cells := 0, slots := 0, locals := 46 } : Room) [.ref h0, .ref r1, .int a2] D ca sz [(h0, .inr (0, [.ref h0_frees, .ref h0_low, .ref h0_high, .ref h0_letGoWeight, .ref h0_holdWeight, .ref h0_heardWith])), (r1, .inr (5, [.int r1_jurors, .int r1_floors, .int r1_cases, .int r1_one, .int r1_dent, .int r1_seated, .ref r1_jurorName, .ref r1_floorName, .ref r1_caseName, .ref r1_pitch, .ref r1_length, .ref r1_hands, .ref r1_tune, .ref r1_dull, .ref r1_caseFloor, .ref r1_tuned])), (aI ca h0_high 1024 F_h0_high), (aI ca h0_low 1024 F_h0_low), (aJ ca h0_letGoWeight 1024 F_h0_letGoWeight), (aJ ca h0_holdWeight 1024 F_h0_holdWeight)] (oQi D (fun (r : Int32) (u : Unit) => (rg 0 1023 r)) (fun (u : Unit) => [(h0, .inr (0, [.ref h0_frees, .ref h0_low, .ref h0_high, .ref h0_letGoWeight, .ref h0_holdWeight, .ref h0_heardWith])), (r1, .inr (5, [.int r1_jurors, .int r1_floors, .int r1_cases, .int r1_one, .int r1_dent, .int r1_seated, .ref r1_jurorName, .ref r1_floorName, .ref r1_caseName, .ref r1_pitch, .ref r1_length, .ref r1_hands, .ref r1_tune, .ref r1_dull, .ref r1_caseFloor, .ref r1_tuned])), (aI ca h0_high 1024 F_h0_high), (aI ca h0_low 1024 F_h0_low), (aJ ca h0_letGoWeight 1024 F_h0_letGoWeight), (aJ ca h0_holdWeight 1024 F_h0_holdWeight)])) 0 0 := by
  refine oM (cc := cX0_likeliest) (maxL := 9) (ret := (some .int)) (by decide) rfl (Nat.le_of_ble_eq_true rfl) [(0, .ref h0), (1, .ref r1), (2, .int a2)] rfl ?_
  intro p e s m below meth c A H locs ls hx hb hr hml hts hown hlocks hin hK hP hD hA hS hl
  have hown : s.vm.findClass RX0 = some m.cls := hown
  have k1 := hts (.fieldLink RX0 32 "LidCourt$Law" "jurors" "I") (by decide +kernel)
  have k2 : ∀ w ∈ wsX50, w ∈ wsX0_likeliest := fun _ h => List.mem_cons_of_mem _ (List.mem_append_left _ (List.mem_append_right _ h))
  have k3 := hts (.fieldLink RX0 62 "LidCourt$Law" "one" "I") (by decide +kernel)
  have k4 := hts (.constantLong RX0 71 (-1)) (by decide +kernel)
  have J10_232 : ∀ (n : Nat) (y10_0 : Int32) (y10_1 : Int64) (y10_2 : Int32), True → rg 0 1023 y10_0 → rg 1 1024 y10_2 → 1024 < y10_2.toInt + (n : Int) → ∀ (H : Heap) (locs : List Loc) (ls : Array Slot), va_P D vwCl [(h0, .inr (0, [.ref h0_frees, .ref h0_low, .ref h0_high, .ref h0_letGoWeight, .ref h0_holdWeight, .ref h0_heardWith])), (r1, .inr (5, [.int r1_jurors, .int r1_floors, .int r1_cases, .int r1_one, .int r1_dent, .int r1_seated, .ref r1_jurorName, .ref r1_floorName, .ref r1_caseName, .ref r1_pitch, .ref r1_length, .ref r1_hands, .ref r1_tune, .ref r1_dull, .ref r1_caseFloor, .ref r1_tuned])), (aI ca h0_high 1024 F_h0_high), (aI ca h0_low 1024 F_h0_low), (aJ ca h0_letGoWeight 1024 F_h0_letGoWeight), (aJ ca h0_holdWeight 1024 F_h0_holdWeight)] H → va_D A [(h0, .inr (0, [.ref h0_frees, .ref h0_low, .ref h0_high, .ref h0_letGoWeight, .ref h0_holdWeight, .ref h0_heardWith])), (r1, .inr (5, [.int r1_jurors, .int r1_floors, .int r1_cases, .int r1_one, .int r1_dent, .int r1_seated, .ref r1_jurorName, .ref r1_floorName, .ref r1_caseName, .ref r1_pitch, .ref r1_length, .ref r1_hands, .ref r1_tune, .ref r1_dull, .ref r1_caseFloor, .ref r1_tuned])), (aI ca h0_high 1024 F_h0_high), (aI ca h0_low 1024 F_h0_low), (aJ ca h0_letGoWeight 1024 F_h0_letGoWeight), (aJ ca h0_holdWeight 1024 F_h0_holdWeight)] → va_S A s.heap H locs → lv_has ls 9 [(0, .ref h0), (1, .ref r1), (2, .int a2), (3, .int y10_0), (4, .long y10_1), (6, .int y10_2)] → W p l e ({ frames := 2, cells := 0, slots := 0, locals := 46 } : Room) s m ([.ref h0, .ref r1, .int a2] : List Value).toArray below meth c H locs 0 0 (MQ below ((oQi D (fun (r : Int32) (u : Unit) => (rg 0 1023 r)) (fun (u : Unit) => [(h0, .inr (0, [.ref h0_frees, .ref h0_low, .ref h0_high, .ref h0_letGoWeight, .ref h0_holdWeight, .ref h0_heardWith])), (r1, .inr (5, [.int r1_jurors, .int r1_floors, .int r1_cases, .int r1_one, .int r1_dent, .int r1_seated, .ref r1_jurorName, .ref r1_floorName, .ref r1_caseName, .ref r1_pitch, .ref r1_length, .ref r1_hands, .ref r1_tune, .ref r1_dull, .ref r1_caseFloor, .ref r1_tuned])), (aI ca h0_high 1024 F_h0_high), (aI ca h0_low 1024 F_h0_low), (aJ ca h0_letGoWeight 1024 F_h0_letGoWeight), (aJ ca h0_holdWeight 1024 F_h0_holdWeight)])) A) ([.ref h0, .ref r1, .int a2] : List Value).toArray s 0 0 A) (F0 m 10 ls []) := by
    intro n
    induction n with
    | zero => intro y10_0 y10_1 y10_2 _ hy10_0 hy10_2 hn; exact absurd hn (by have q9 := hy10_2.2; omega)
    | succ n ih =>
      intro y10_0 y10_1 y10_2 _ hy10_0 hy10_2 hn H locs ls hP hD hS hl
      have J57_259 : ∀ (y57_0 : Int32) (y57_1 : Int64), rg 0 1023 y57_0 → rg 1 1023 y10_2 → ∀ (H : Heap) (locs : List Loc) (ls : Array Slot), va_P D vwCl [(h0, .inr (0, [.ref h0_frees, .ref h0_low, .ref h0_high, .ref h0_letGoWeight, .ref h0_holdWeight, .ref h0_heardWith])), (r1, .inr (5, [.int r1_jurors, .int r1_floors, .int r1_cases, .int r1_one, .int r1_dent, .int r1_seated, .ref r1_jurorName, .ref r1_floorName, .ref r1_caseName, .ref r1_pitch, .ref r1_length, .ref r1_hands, .ref r1_tune, .ref r1_dull, .ref r1_caseFloor, .ref r1_tuned])), (aI ca h0_high 1024 F_h0_high), (aI ca h0_low 1024 F_h0_low), (aJ ca h0_letGoWeight 1024 F_h0_letGoWeight), (aJ ca h0_holdWeight 1024 F_h0_holdWeight)] H → va_D A [(h0, .inr (0, [.ref h0_frees, .ref h0_low, .ref h0_high, .ref h0_letGoWeight, .ref h0_holdWeight, .ref h0_heardWith])), (r1, .inr (5, [.int r1_jurors, .int r1_floors, .int r1_cases, .int r1_one, .int r1_dent, .int r1_seated, .ref r1_jurorName, .ref r1_floorName, .ref r1_caseName, .ref r1_pitch, .ref r1_length, .ref r1_hands, .ref r1_tune, .ref r1_dull, .ref r1_caseFloor, .ref r1_tuned])), (aI ca h0_high 1024 F_h0_high), (aI ca h0_low 1024 F_h0_low), (aJ ca h0_letGoWeight 1024 F_h0_letGoWeight), (aJ ca h0_holdWeight 1024 F_h0_holdWeight)] → va_S A s.heap H locs → lv_has ls 9 [(0, .ref h0), (1, .ref r1), (2, .int a2), (3, .int y57_0), (4, .long y57_1), (6, .int y10_2)] → W p l e ({ frames := 2, cells := 0, slots := 0, locals := 46 } : Room) s m ([.ref h0, .ref r1, .int a2] : List Value).toArray below meth c H locs 0 0 (MQ below ((oQi D (fun (r : Int32) (u : Unit) => (rg 0 1023 r)) (fun (u : Unit) => [(h0, .inr (0, [.ref h0_frees, .ref h0_low, .ref h0_high, .ref h0_letGoWeight, .ref h0_holdWeight, .ref h0_heardWith])), (r1, .inr (5, [.int r1_jurors, .int r1_floors, .int r1_cases, .int r1_one, .int r1_dent, .int r1_seated, .ref r1_jurorName, .ref r1_floorName, .ref r1_caseName, .ref r1_pitch, .ref r1_length, .ref r1_hands, .ref r1_tune, .ref r1_dull, .ref r1_caseFloor, .ref r1_tuned])), (aI ca h0_high 1024 F_h0_high), (aI ca h0_low 1024 F_h0_low), (aJ ca h0_letGoWeight 1024 F_h0_letGoWeight), (aJ ca h0_holdWeight 1024 F_h0_holdWeight)])) A) ([.ref h0, .ref r1, .int a2] : List Value).toArray s 0 0 A) (F0 m 57 ls []) := by
        intro y57_0 y57_1 hy57_0 t57_y10_2 H locs ls hP hD hS hl
        obtain ⟨x_260, ex_260⟩ : ∃ y : Int32, y = y10_2 + 1 := ⟨_, rfl⟩
        have h_261 : rg 2 1024 x_260 := by rw [ex_260]; exact rg_add t57_y10_2 (⟨by decide, by decide⟩ : rg 1 1 (1 : Int32)) (by decide) (by decide) (by decide) (by decide)
        have l_262 : lq x_260.toInt (y10_2.toInt + 1) := lqm (by rw [ex_260]; have q := tadd t57_y10_2 (⟨by decide, by decide⟩ : rg 1 1 (1 : Int32)) (by decide) (by decide); have r1 := lqe (lqm (by decide) : lq (1 : Int32).toInt 1); omega)
        refine lv_iinc (v := x_260) (lv' := [(6, .int x_260), (0, .ref h0), (1, .ref r1), (2, .int a2), (3, .int y57_0), (4, .long y57_1)]) hx hb dX0_likeliest_57 hl (k := 5) rfl (by rw [ex_260]; rfl) (by decide) rfl (fun ls hl => ?_)
        refine lv_goto (tgt := 10) hx hb dX0_likeliest_60 (by decide) ?_
        exact ih y57_0 y57_1 x_260 trivial hy57_0 (rgw (lo := 1) (hi := 1024) h_261 (by decide) (by decide)) (by have q0 := lqe l_262; omega) H locs ls (oPsub hP [0, 1, 2, 3, 4, 5] rfl) (hD.sub [0, 1, 2, 3, 4, 5] (by decide) rfl) hS (lv_sub hl [1, 2, 3, 4, 5, 0] rfl)
      refine lv_iload hx hb dX0_likeliest_10 (lv_at hl 5 rfl) ?_
      refine lv_iconst (v := 1) hx hb dX0_likeliest_12 (by decide) ?_
      refine lv_aload_n hx hb dX0_likeliest_13 rfl (lv_at hl 1 rfl) ?_
      refine va_get (D := D) (ci := 5) (v := .int r1_jurors) (C := RX5) (T := TX5) (N := 16) hx hb hts k2 hown hK.1 hP 1 rfl rfl 0 (by decide) k1 (fun _ h9 => h9) rfl dX0_likeliest_14 ?_
      refine lv_ishl hx hb dX0_likeliest_17 ?_
      refine lv_topi (fun x_263 ex_263 => ?_)
      have h_264 : rg 1 1024 x_263 := by rw [ex_263]; exact rg_shl1 i_r1_jurors (by decide) (by decide) (by decide) (by decide)
      refine lv_icmp_ge (tgt := 63) hx hb dX0_likeliest_18 (by decide) (fun c_265 => ?_) (fun c_265 => ?_)
      · skip
        have o_266 : rl 0 x_263 y10_2 := rl_le c_265
        refine lv_iload_n hx hb dX0_likeliest_63 rfl (lv_at hl 3 rfl) ?_
        exact oE_i hx hb hr rfl hlocks hP hD hS () [0, 1, 2, 3, 4, 5] rfl (by decide) hy10_0 (Nat.le_of_ble_eq_true rfl) (Nat.le_of_ble_eq_true rfl) dX0_likeliest_64
      · skip
        have o_267 : rl 1 y10_2 x_263 := rl_nle c_265
        have h_268 : rg 1 1023 y10_2 := rl_x o_267 hy10_2 h_264 (by decide) (by decide)
        have h_269 : rg 2 1024 x_263 := rl_y o_267 hy10_2 h_264 (by decide) (by decide)
        refine lv_iload hx hb dX0_likeliest_21 (lv_at hl 5 rfl) ?_
        refine oC_i (Wc := []) (Wr := [(h0, .inr (0, [.ref h0_frees, .ref h0_low, .ref h0_high, .ref h0_letGoWeight, .ref h0_holdWeight, .ref h0_heardWith])), (r1, .inr (5, [.int r1_jurors, .int r1_floors, .int r1_cases, .int r1_one, .int r1_dent, .int r1_seated, .ref r1_jurorName, .ref r1_floorName, .ref r1_caseName, .ref r1_pitch, .ref r1_length, .ref r1_hands, .ref r1_tune, .ref r1_dull, .ref r1_caseFloor, .ref r1_tuned])), (aI ca h0_high 1024 F_h0_high), (aI ca h0_low 1024 F_h0_low), (aJ ca h0_letGoWeight 1024 F_h0_letGoWeight), (aJ ca h0_holdWeight 1024 F_h0_holdWeight)]) (va_runS (As := [.int y10_2]) (rest := []) ⟨hx, hb, hml, hown, hts⟩ (s_J6_bitCount_0f7a4 l D ca H.size y10_2) (va_cwS 1 hts gX0_likeliest_J6_bitCount_0f7a4 rfl rfl rfl (by decide +kernel) ⟨Nat.le_of_ble_eq_true rfl, Nat.le_of_ble_eq_true rfl⟩) (oPS hK hP hD [] rfl (by decide)) rfl rfl hl.1 rfl (lv_room (Nat.le_of_ble_eq_true rfl)) dX0_likeliest_23 ⟨Nat.le_of_ble_eq_true rfl, Nat.le_of_ble_eq_true rfl⟩) hP hD hS hA [] [0, 1, 2, 3, 4, 5] rfl rfl (by decide) (by decide) (fun r_270 u H locs w_271 hP hD hS => ?_)
        obtain ⟨⟩ := u
        have hP : va_P D vwCl [(h0, .inr (0, [.ref h0_frees, .ref h0_low, .ref h0_high, .ref h0_letGoWeight, .ref h0_holdWeight, .ref h0_heardWith])), (r1, .inr (5, [.int r1_jurors, .int r1_floors, .int r1_cases, .int r1_one, .int r1_dent, .int r1_seated, .ref r1_jurorName, .ref r1_floorName, .ref r1_caseName, .ref r1_pitch, .ref r1_length, .ref r1_hands, .ref r1_tune, .ref r1_dull, .ref r1_caseFloor, .ref r1_tuned])), (aI ca h0_high 1024 F_h0_high), (aI ca h0_low 1024 F_h0_low), (aJ ca h0_letGoWeight 1024 F_h0_letGoWeight), (aJ ca h0_holdWeight 1024 F_h0_holdWeight)] H := hP
        have hD : va_D A [(h0, .inr (0, [.ref h0_frees, .ref h0_low, .ref h0_high, .ref h0_letGoWeight, .ref h0_holdWeight, .ref h0_heardWith])), (r1, .inr (5, [.int r1_jurors, .int r1_floors, .int r1_cases, .int r1_one, .int r1_dent, .int r1_seated, .ref r1_jurorName, .ref r1_floorName, .ref r1_caseName, .ref r1_pitch, .ref r1_length, .ref r1_hands, .ref r1_tune, .ref r1_dull, .ref r1_caseFloor, .ref r1_tuned])), (aI ca h0_high 1024 F_h0_high), (aI ca h0_low 1024 F_h0_low), (aJ ca h0_letGoWeight 1024 F_h0_letGoWeight), (aJ ca h0_holdWeight 1024 F_h0_holdWeight)] := hD
        try dsimp only at w_271
        have h_272 := w_271
        refine lv_iload_n hx hb dX0_likeliest_26 rfl (lv_at hl 2 rfl) ?_
        refine lv_icmp_ne (tgt := 57) hx hb dX0_likeliest_27 (by decide) (fun c_273 => ?_) (fun c_273 => ?_)
        · skip
          exact J57_259 y10_0 y10_1 hy10_0 h_268 H locs ls (oPsub hP [0, 1, 2, 3, 4, 5] rfl) (hD.sub [0, 1, 2, 3, 4, 5] (by decide) rfl) hS (lv_sub hl [0, 1, 2, 3, 4, 5] rfl)
        · skip
          have o_274 : rl 0 r_270 a2 := rl_eq c_273
          have h_275 : rg 0 2147483647 a2 := rl_y o_274 h_272 (rga a2) (by decide) (by decide)
          have o_276 : rl 0 a2 r_270 := rl_eq c_273.symm
          have h_277 : rg 0 63 a2 := rl_x o_276 h_275 h_272 (by decide) (by decide)
          refine lv_aload_n hx hb dX0_likeliest_30 rfl (lv_at hl 0 rfl) ?_
          refine lv_iload hx hb dX0_likeliest_31 (lv_at hl 5 rfl) ?_
          refine lv_aload_n hx hb dX0_likeliest_33 rfl (lv_at hl 1 rfl) ?_
          refine va_get (D := D) (ci := 5) (v := .int r1_one) (C := RX5) (T := TX5) (N := 16) hx hb hts k2 hown hK.1 hP 1 rfl rfl 3 (by decide) k3 (fun _ h9 => h9) rfl dX0_likeliest_34 ?_
          refine oC_l (Wc := [(h0, .inr (0, [.ref h0_frees, .ref h0_low, .ref h0_high, .ref h0_letGoWeight, .ref h0_holdWeight, .ref h0_heardWith])), (aI ca h0_high 1024 F_h0_high), (aI ca h0_low 1024 F_h0_low), (aJ ca h0_letGoWeight 1024 F_h0_letGoWeight), (aJ ca h0_holdWeight 1024 F_h0_holdWeight)]) (Wr := [(r1, .inr (5, [.int r1_jurors, .int r1_floors, .int r1_cases, .int r1_one, .int r1_dent, .int r1_seated, .ref r1_jurorName, .ref r1_floorName, .ref r1_caseName, .ref r1_pitch, .ref r1_length, .ref r1_hands, .ref r1_tune, .ref r1_dull, .ref r1_caseFloor, .ref r1_tuned]))]) (va_runV (As := [.int y10_2, .int r1_one]) (rest := []) ⟨hx, hb, hml, hown, hts⟩ (s_X0_freeWeight l D ca H.size h0 y10_2 r1_one h0_frees h0_low h0_high h0_letGoWeight h0_holdWeight h0_heardWith F_h0_high F_h0_low F_h0_letGoWeight F_h0_holdWeight (rgw (lo := 0) (hi := 1023) h_268 (by decide) (by decide))) (cwV 2 hts gX0_likeliest_X0_freeWeight rfl rfl rfl (by decide +kernel) ⟨Nat.le_of_ble_eq_true rfl, Nat.le_of_ble_eq_true rfl⟩) (oPV (C := RX0) hK hP hD [0, 2, 3, 4, 5] rfl (by decide) 0 rfl (ci := 0) rfl rfl) rfl rfl hl.1 rfl (lv_room (Nat.le_of_ble_eq_true rfl)) dX0_likeliest_37 ⟨Nat.le_of_ble_eq_true rfl, Nat.le_of_ble_eq_true rfl⟩) hP hD hS hA [0, 2, 3, 4, 5] [1] rfl rfl (by decide) (by decide) (fun r_278 u H locs w_279 hP hD hS => ?_)
          obtain ⟨⟩ := u
          have hP : va_P D vwCl [(r1, .inr (5, [.int r1_jurors, .int r1_floors, .int r1_cases, .int r1_one, .int r1_dent, .int r1_seated, .ref r1_jurorName, .ref r1_floorName, .ref r1_caseName, .ref r1_pitch, .ref r1_length, .ref r1_hands, .ref r1_tune, .ref r1_dull, .ref r1_caseFloor, .ref r1_tuned])), (h0, .inr (0, [.ref h0_frees, .ref h0_low, .ref h0_high, .ref h0_letGoWeight, .ref h0_holdWeight, .ref h0_heardWith])), (aI ca h0_high 1024 F_h0_high), (aI ca h0_low 1024 F_h0_low), (aJ ca h0_letGoWeight 1024 F_h0_letGoWeight), (aJ ca h0_holdWeight 1024 F_h0_holdWeight)] H := hP
          have hD : va_D A [(r1, .inr (5, [.int r1_jurors, .int r1_floors, .int r1_cases, .int r1_one, .int r1_dent, .int r1_seated, .ref r1_jurorName, .ref r1_floorName, .ref r1_caseName, .ref r1_pitch, .ref r1_length, .ref r1_hands, .ref r1_tune, .ref r1_dull, .ref r1_caseFloor, .ref r1_tuned])), (h0, .inr (0, [.ref h0_frees, .ref h0_low, .ref h0_high, .ref h0_letGoWeight, .ref h0_holdWeight, .ref h0_heardWith])), (aI ca h0_high 1024 F_h0_high), (aI ca h0_low 1024 F_h0_low), (aJ ca h0_letGoWeight 1024 F_h0_letGoWeight), (aJ ca h0_holdWeight 1024 F_h0_holdWeight)] := hD
          try dsimp only at w_279
          refine lv_lstore (lv' := [(7, .long r_278), (0, .ref h0), (1, .ref r1), (2, .int a2), (3, .int y10_0), (4, .long y10_1), (6, .int y10_2)]) hx hb dX0_likeliest_40 hl (by decide) rfl (fun ls hl => ?_)
          refine lv_lload hx hb dX0_likeliest_42 (lv_at hl 0 rfl) ?_
          refine lv_lload hx hb dX0_likeliest_44 (lv_at hl 5 rfl) ?_
          refine W.lcmp hx hb dX0_likeliest_46 ?_
          refine lv_topi (fun x_280 ex_280 => ?_)
          refine lv_if_le (tgt := 57) hx hb dX0_likeliest_47 (by decide) (fun c_281 => ?_) (fun c_281 => ?_)
          · skip
            have o_282 : rl 0 x_280 0 := rl_le c_281
            have h_283 : rg (-2147483648) 0 x_280 := rl_x o_282 (rga x_280) (⟨by decide, by decide⟩ : rg 0 0 (0 : Int32)) (by decide) (by decide)
            exact J57_259 y10_0 y10_1 hy10_0 h_268 H locs ls (oPsub hP [1, 0, 2, 3, 4, 5] rfl) (hD.sub [1, 0, 2, 3, 4, 5] (by decide) rfl) hS (lv_sub hl [1, 2, 3, 4, 5, 6] rfl)
          · skip
            have o_284 : rl 1 0 x_280 := rl_nle c_281
            have h_285 : rg 1 2147483647 x_280 := rl_y o_284 (⟨by decide, by decide⟩ : rg 0 0 (0 : Int32)) (rga x_280) (by decide) (by decide)
            refine lv_lload hx hb dX0_likeliest_50 (lv_at hl 0 rfl) ?_
            refine lv_lstore (lv' := [(4, .long r_278), (7, .long r_278), (0, .ref h0), (1, .ref r1), (2, .int a2), (3, .int y10_0), (6, .int y10_2)]) hx hb dX0_likeliest_52 hl (by decide) rfl (fun ls hl => ?_)
            refine lv_iload hx hb dX0_likeliest_54 (lv_at hl 6 rfl) ?_
            refine lv_istore_n (lv' := [(3, .int y10_2), (4, .long r_278), (7, .long r_278), (0, .ref h0), (1, .ref r1), (2, .int a2), (6, .int y10_2)]) hx hb dX0_likeliest_56 rfl hl (by decide) rfl (fun ls hl => ?_)
            exact J57_259 y10_2 r_278 (rgw (lo := 0) (hi := 1023) h_268 (by decide) (by decide)) h_268 H locs ls (oPsub hP [1, 0, 2, 3, 4, 5] rfl) (hD.sub [1, 0, 2, 3, 4, 5] (by decide) rfl) hS (lv_sub hl [3, 4, 5, 0, 1, 6] rfl)
  refine lv_iconst (v := 0) hx hb dX0_likeliest_0 (by decide) ?_
  refine lv_istore_n (lv' := [(3, .int 0), (0, .ref h0), (1, .ref r1), (2, .int a2)]) hx hb dX0_likeliest_1 rfl hl (by decide) rfl (fun ls hl => ?_)
  refine lv_ldc2 (v := (-1)) hx hb hown k4 dX0_likeliest_2 ?_
  refine lv_lstore (lv' := [(4, .long (-1)), (3, .int 0), (0, .ref h0), (1, .ref r1), (2, .int a2)]) hx hb dX0_likeliest_5 hl (by decide) rfl (fun ls hl => ?_)
  refine lv_iconst (v := 1) hx hb dX0_likeliest_7 (by decide) ?_
  refine lv_istore (lv' := [(6, .int 1), (4, .long (-1)), (3, .int 0), (0, .ref h0), (1, .ref r1), (2, .int a2)]) hx hb dX0_likeliest_8 hl (by decide) rfl (fun ls hl => ?_)
  exact J10_232 1024 0 (-1) 1 trivial (⟨by decide, by decide⟩ : rg 0 1023 (0 : Int32)) (⟨by decide, by decide⟩ : rg 1 1024 (1 : Int32)) (by have q0 := (⟨by decide, by decide⟩ : rg 1 1 (1 : Int32)).1; omega) H locs ls (oPsub hP [0, 1, 2, 3, 4, 5] rfl) (hD.sub [0, 1, 2, 3, 4, 5] (by decide) rfl) hS (lv_sub hl [3, 4, 5, 2, 1, 0] rfl)
theorem dX11_panelled_0 : decode cX11_panelled 0 = .ok (.aload_n 0, 1) := by decide +kernel
theorem dX11_panelled_1 : decode cX11_panelled 1 = .ok (.getfield 83, 3) := by decide +kernel
theorem dX11_panelled_4 : decode cX11_panelled 4 = .ok (.iconst 2, 1) := by decide +kernel
theorem dX11_panelled_5 : decode cX11_panelled 5 = .ok (.iaload, 1) := by decide +kernel
theorem dX11_panelled_6 : decode cX11_panelled 6 = .ok (.ireturn, 1) := by decide +kernel
set_option maxHeartbeats 4000000 in
set_option maxRecDepth 100000 in
theorem s_X11_panelled (l : Launch) (D : va_G) (ca : Nat → ClassId) (sz : Nat) (h0 : Nat) (h0_tape : Nat) (h0_law : Nat) (h0_standing : Nat) (h0_saying : Nat) (h0_courtReader : Nat) (h0_bookReader : Nat) (h0_sentenceReader : Nat) (h0_bench : Nat) (h0_whatIf : Nat) (h0_history : Nat) (h0_images : Nat) (h0_latest : Nat) (h0_latestBook : Nat) (h0_latestRoll : Nat) (h0_rollLength : Int32) (F_h0_latest : Nat → Int32) (i_h0_rollLength : rg 0 40 h0_rollLength) : oMet l yX11_panelled wsX11_panelled ({ frames := 0, cells := 0, slots := 0, locals := 0 } : Room) [.ref h0] D ca sz [(h0, .inr (10, [.ref h0_tape, .ref h0_law, .ref h0_standing, .ref h0_saying, .ref h0_courtReader, .ref h0_bookReader, .ref h0_sentenceReader, .ref h0_bench, .ref h0_whatIf, .ref h0_history, .ref h0_images, .ref h0_latest, .ref h0_latestBook, .ref h0_latestRoll, .int h0_rollLength])), (aI ca h0_latest 7 F_h0_latest)] (oQi D (fun (r : Int32) (u : Unit) => (r = F_h0_latest (2 : Int32).toNatClampNeg)) (fun (u : Unit) => [(h0, .inr (10, [.ref h0_tape, .ref h0_law, .ref h0_standing, .ref h0_saying, .ref h0_courtReader, .ref h0_bookReader, .ref h0_sentenceReader, .ref h0_bench, .ref h0_whatIf, .ref h0_history, .ref h0_images, .ref h0_latest, .ref h0_latestBook, .ref h0_latestRoll, .int h0_rollLength])), (aI ca h0_latest 7 F_h0_latest)])) 0 0 := by
  refine oM (cc := cX11_panelled) (maxL := 1) (ret := (some .int)) (by decide) rfl (Nat.le_of_ble_eq_true rfl) [(0, .ref h0)] rfl ?_
  intro p e s m below meth c A H locs ls hx hb hr hml hts hown hlocks hin hK hP hD hA hS hl
  have hown : s.vm.findClass RX11 = some m.cls := hown
  have k1 := hts (.fieldLink RX11 83 "LidCourt" "latest" "[I") (by decide +kernel)
  have k2 : ∀ w ∈ wsX110, w ∈ wsX11_panelled := fun _ h => List.mem_cons_of_mem _ (List.mem_append_right _ h)
  refine lv_aload_n hx hb dX11_panelled_0 rfl (lv_at hl 0 rfl) ?_
  refine va_get (D := D) (ci := 10) (v := .ref h0_latest) (C := RX11) (T := TX11) (N := 15) hx hb hts k2 hown hK.1 hP 0 rfl rfl 11 (by decide) k1 (fun _ h9 => h9) rfl dX11_panelled_1 ?_
  refine lv_iconst (v := 2) hx hb dX11_panelled_4 (by decide) ?_
  refine va_iald hx hb hK.1 hP 1 0 rfl rfl (rg_in (⟨by decide, by decide⟩ : rg 2 2 (2 : Int32)) (by decide) (by decide)) dX11_panelled_5 ?_
  refine lv_topi (fun x_2 ex_2 => ?_)
  exact oE_i hx hb hr rfl hlocks hP hD hS () [0, 1] rfl (by decide) ex_2 (Nat.le_of_ble_eq_true rfl) (Nat.le_of_ble_eq_true rfl) dX11_panelled_6
theorem dX0_hear_0 : decode cX0_hear 0 = .ok (.iconst 0, 1) := by decide +kernel
theorem dX0_hear_1 : decode cX0_hear 1 = .ok (.istore 4, 2) := by decide +kernel
theorem dX0_hear_3 : decode cX0_hear 3 = .ok (.iconst 0, 1) := by decide +kernel
theorem dX0_hear_4 : decode cX0_hear 4 = .ok (.istore 5, 2) := by decide +kernel
theorem dX0_hear_6 : decode cX0_hear 6 = .ok (.iload 5, 2) := by decide +kernel
theorem dX0_hear_8 : decode cX0_hear 8 = .ok (.bipush 10, 2) := by decide +kernel
theorem dX0_hear_10 : decode cX0_hear 10 = .ok (.if_icmp .ge 17, 3) := by decide +kernel
theorem dX0_hear_13 : decode cX0_hear 13 = .ok (.aload_n 0, 1) := by decide +kernel
theorem dX0_hear_14 : decode cX0_hear 14 = .ok (.getfield 29, 3) := by decide +kernel
theorem dX0_hear_17 : decode cX0_hear 17 = .ok (.iload 5, 2) := by decide +kernel
theorem dX0_hear_19 : decode cX0_hear 19 = .ok (.iconst 0, 1) := by decide +kernel
theorem dX0_hear_20 : decode cX0_hear 20 = .ok (.iastore, 1) := by decide +kernel
theorem dX0_hear_21 : decode cX0_hear 21 = .ok (.iinc 5 1, 3) := by decide +kernel
theorem dX0_hear_24 : decode cX0_hear 24 = .ok (.goto (-18), 3) := by decide +kernel
theorem dX0_hear_27 : decode cX0_hear 27 = .ok (.iload_n 1, 1) := by decide +kernel
theorem dX0_hear_28 : decode cX0_hear 28 = .ok (.istore 5, 2) := by decide +kernel
theorem dX0_hear_30 : decode cX0_hear 30 = .ok (.iload 5, 2) := by decide +kernel
theorem dX0_hear_32 : decode cX0_hear 32 = .ok (.ifCond .le 72, 3) := by decide +kernel
theorem dX0_hear_35 : decode cX0_hear 35 = .ok (.aload_n 0, 1) := by decide +kernel
theorem dX0_hear_36 : decode cX0_hear 36 = .ok (.getfield 15, 3) := by decide +kernel
theorem dX0_hear_39 : decode cX0_hear 39 = .ok (.iload 5, 2) := by decide +kernel
theorem dX0_hear_41 : decode cX0_hear 41 = .ok (.iaload, 1) := by decide +kernel
theorem dX0_hear_42 : decode cX0_hear 42 = .ok (.iload_n 2, 1) := by decide +kernel
theorem dX0_hear_43 : decode cX0_hear 43 = .ok (.if_icmp .ne 50, 3) := by decide +kernel
theorem dX0_hear_46 : decode cX0_hear 46 = .ok (.aload_n 0, 1) := by decide +kernel
theorem dX0_hear_47 : decode cX0_hear 47 = .ok (.getfield 19, 3) := by decide +kernel
theorem dX0_hear_50 : decode cX0_hear 50 = .ok (.iload 5, 2) := by decide +kernel
theorem dX0_hear_52 : decode cX0_hear 52 = .ok (.iaload, 1) := by decide +kernel
theorem dX0_hear_53 : decode cX0_hear 53 = .ok (.iload_n 3, 1) := by decide +kernel
theorem dX0_hear_54 : decode cX0_hear 54 = .ok (.if_icmp .ne 39, 3) := by decide +kernel
theorem dX0_hear_57 : decode cX0_hear 57 = .ok (.iinc 4 1, 3) := by decide +kernel
theorem dX0_hear_60 : decode cX0_hear 60 = .ok (.iconst 0, 1) := by decide +kernel
theorem dX0_hear_61 : decode cX0_hear 61 = .ok (.istore 6, 2) := by decide +kernel
theorem dX0_hear_63 : decode cX0_hear 63 = .ok (.iload 6, 2) := by decide +kernel
theorem dX0_hear_65 : decode cX0_hear 65 = .ok (.bipush 10, 2) := by decide +kernel
theorem dX0_hear_67 : decode cX0_hear 67 = .ok (.if_icmp .ge 26, 3) := by decide +kernel
theorem dX0_hear_70 : decode cX0_hear 70 = .ok (.aload_n 0, 1) := by decide +kernel
theorem dX0_hear_71 : decode cX0_hear 71 = .ok (.getfield 29, 3) := by decide +kernel
theorem dX0_hear_74 : decode cX0_hear 74 = .ok (.iload 6, 2) := by decide +kernel
theorem dX0_hear_76 : decode cX0_hear 76 = .ok (.dup2, 1) := by decide +kernel
theorem dX0_hear_77 : decode cX0_hear 77 = .ok (.iaload, 1) := by decide +kernel
theorem dX0_hear_78 : decode cX0_hear 78 = .ok (.iload 5, 2) := by decide +kernel
theorem dX0_hear_80 : decode cX0_hear 80 = .ok (.iload 6, 2) := by decide +kernel
theorem dX0_hear_82 : decode cX0_hear 82 = .ok (.ishr, 1) := by decide +kernel
theorem dX0_hear_83 : decode cX0_hear 83 = .ok (.iconst 1, 1) := by decide +kernel
theorem dX0_hear_84 : decode cX0_hear 84 = .ok (.iand, 1) := by decide +kernel
theorem dX0_hear_85 : decode cX0_hear 85 = .ok (.iadd, 1) := by decide +kernel
theorem dX0_hear_86 : decode cX0_hear 86 = .ok (.iastore, 1) := by decide +kernel
theorem dX0_hear_87 : decode cX0_hear 87 = .ok (.iinc 6 1, 3) := by decide +kernel
theorem dX0_hear_90 : decode cX0_hear 90 = .ok (.goto (-27), 3) := by decide +kernel
theorem dX0_hear_93 : decode cX0_hear 93 = .ok (.iload 5, 2) := by decide +kernel
theorem dX0_hear_95 : decode cX0_hear 95 = .ok (.iconst 1, 1) := by decide +kernel
theorem dX0_hear_96 : decode cX0_hear 96 = .ok (.isub, 1) := by decide +kernel
theorem dX0_hear_97 : decode cX0_hear 97 = .ok (.iload_n 1, 1) := by decide +kernel
theorem dX0_hear_98 : decode cX0_hear 98 = .ok (.iand, 1) := by decide +kernel
theorem dX0_hear_99 : decode cX0_hear 99 = .ok (.istore 5, 2) := by decide +kernel
theorem dX0_hear_101 : decode cX0_hear 101 = .ok (.goto (-71), 3) := by decide +kernel
theorem dX0_hear_104 : decode cX0_hear 104 = .ok (.iload 4, 2) := by decide +kernel
theorem dX0_hear_106 : decode cX0_hear 106 = .ok (.ireturn, 1) := by decide +kernel
set_option maxHeartbeats 4000000 in
set_option maxRecDepth 100000 in
theorem s_X0_hear (l : Launch) (D : va_G) (ca : Nat → ClassId) (sz : Nat) (h0 : Nat) (a1 : Int32) (a2 : Int32) (a3 : Int32) (h0_frees : Nat) (h0_low : Nat) (h0_high : Nat) (h0_letGoWeight : Nat) (h0_holdWeight : Nat) (h0_heardWith : Nat) (F_h0_heardWith : Nat → Int32) (F_h0_low : Nat → Int32) (F_h0_high : Nat → Int32) (i_a1 : rg 0 1023 a1) : oMet l yX0_hear wsX0_hear ({ frames := 0, cells := 0, slots := 0, locals := 0 } : Room) [.ref h0, .int a1, .int a2, .int a3] D ca sz [(h0, .inr (0, [.ref h0_frees, .ref h0_low, .ref h0_high, .ref h0_letGoWeight, .ref h0_holdWeight, .ref h0_heardWith])), (aI ca h0_heardWith 10 F_h0_heardWith), (aI ca h0_low 1024 F_h0_low), (aI ca h0_high 1024 F_h0_high)] (oQi D (fun (r : Int32) (u : (Nat → Int32)) => True) (fun (u : (Nat → Int32)) => [(h0, .inr (0, [.ref h0_frees, .ref h0_low, .ref h0_high, .ref h0_letGoWeight, .ref h0_holdWeight, .ref h0_heardWith])), (aI ca h0_heardWith 10 u), (aI ca h0_low 1024 F_h0_low), (aI ca h0_high 1024 F_h0_high)])) 0 0 := by
  refine oM (cc := cX0_hear) (maxL := 7) (ret := (some .int)) (by decide) rfl (Nat.le_of_ble_eq_true rfl) [(0, .ref h0), (1, .int a1), (2, .int a2), (3, .int a3)] rfl ?_
  intro p e s m below meth c A H locs ls hx hb hr hml hts hown hlocks hin hK hP hD hA hS hl
  have hown : s.vm.findClass RX0 = some m.cls := hown
  have k1 := hts (.fieldLink RX0 29 "LidCourt$Bench" "heardWith" "[I") (by decide +kernel)
  have k2 : ∀ w ∈ wsX00, w ∈ wsX0_hear := fun _ h => List.mem_cons_of_mem _ (List.mem_append_right _ h)
  have k3 := hts (.fieldLink RX0 15 "LidCourt$Bench" "low" "[I") (by decide +kernel)
  have k4 := hts (.fieldLink RX0 19 "LidCourt$Bench" "high" "[I") (by decide +kernel)
  have J30_740 : ∀ (n : Nat) (y30_0 : Int32) (y30_1 : Int32) (f30_2 : Nat → Int32), True → rg 0 1023 y30_1 → rl 0 y30_1 a1 → y30_1.toInt < 0 + (n : Int) → ∀ (H : Heap) (locs : List Loc) (ls : Array Slot), va_P D vwCl [(h0, .inr (0, [.ref h0_frees, .ref h0_low, .ref h0_high, .ref h0_letGoWeight, .ref h0_holdWeight, .ref h0_heardWith])), (aI ca h0_heardWith 10 f30_2), (aI ca h0_low 1024 F_h0_low), (aI ca h0_high 1024 F_h0_high)] H → va_D A [(h0, .inr (0, [.ref h0_frees, .ref h0_low, .ref h0_high, .ref h0_letGoWeight, .ref h0_holdWeight, .ref h0_heardWith])), (aI ca h0_heardWith 10 f30_2), (aI ca h0_low 1024 F_h0_low), (aI ca h0_high 1024 F_h0_high)] → va_S A s.heap H locs → lv_has ls 7 [(0, .ref h0), (1, .int a1), (2, .int a2), (3, .int a3), (4, .int y30_0), (5, .int y30_1)] → W p l e ({ frames := 0, cells := 0, slots := 0, locals := 0 } : Room) s m ([.ref h0, .int a1, .int a2, .int a3] : List Value).toArray below meth c H locs 0 0 (MQ below ((oQi D (fun (r : Int32) (u : (Nat → Int32)) => True) (fun (u : (Nat → Int32)) => [(h0, .inr (0, [.ref h0_frees, .ref h0_low, .ref h0_high, .ref h0_letGoWeight, .ref h0_holdWeight, .ref h0_heardWith])), (aI ca h0_heardWith 10 u), (aI ca h0_low 1024 F_h0_low), (aI ca h0_high 1024 F_h0_high)])) A) ([.ref h0, .int a1, .int a2, .int a3] : List Value).toArray s 0 0 A) (F0 m 30 ls []) := by
    intro n
    induction n with
    | zero => intro y30_0 y30_1 f30_2 _ hy30_1 qy30_1_a1 hn; exact absurd hn (by have q9 := hy30_1.1; omega)
    | succ n ih =>
      intro y30_0 y30_1 f30_2 _ hy30_1 qy30_1_a1 hn H locs ls hP hD hS hl
      have J93_811 : ∀ (y93_0 : Int32) (f93_1 : Nat → Int32), rg 1 1023 y30_1 → ∀ (H : Heap) (locs : List Loc) (ls : Array Slot), va_P D vwCl [(h0, .inr (0, [.ref h0_frees, .ref h0_low, .ref h0_high, .ref h0_letGoWeight, .ref h0_holdWeight, .ref h0_heardWith])), (aI ca h0_heardWith 10 f93_1), (aI ca h0_low 1024 F_h0_low), (aI ca h0_high 1024 F_h0_high)] H → va_D A [(h0, .inr (0, [.ref h0_frees, .ref h0_low, .ref h0_high, .ref h0_letGoWeight, .ref h0_holdWeight, .ref h0_heardWith])), (aI ca h0_heardWith 10 f93_1), (aI ca h0_low 1024 F_h0_low), (aI ca h0_high 1024 F_h0_high)] → va_S A s.heap H locs → lv_has ls 7 [(0, .ref h0), (1, .int a1), (2, .int a2), (3, .int a3), (4, .int y93_0), (5, .int y30_1)] → W p l e ({ frames := 0, cells := 0, slots := 0, locals := 0 } : Room) s m ([.ref h0, .int a1, .int a2, .int a3] : List Value).toArray below meth c H locs 0 0 (MQ below ((oQi D (fun (r : Int32) (u : (Nat → Int32)) => True) (fun (u : (Nat → Int32)) => [(h0, .inr (0, [.ref h0_frees, .ref h0_low, .ref h0_high, .ref h0_letGoWeight, .ref h0_holdWeight, .ref h0_heardWith])), (aI ca h0_heardWith 10 u), (aI ca h0_low 1024 F_h0_low), (aI ca h0_high 1024 F_h0_high)])) A) ([.ref h0, .int a1, .int a2, .int a3] : List Value).toArray s 0 0 A) (F0 m 93 ls []) := by
        intro y93_0 f93_1 t93_y30_1 H locs ls hP hD hS hl
        refine lv_iload hx hb dX0_hear_93 (lv_at hl 5 rfl) ?_
        refine lv_iconst (v := 1) hx hb dX0_hear_95 (by decide) ?_
        refine lv_isub hx hb dX0_hear_96 ?_
        refine lv_topi (fun x_812 ex_812 => ?_)
        have h_813 : rg 0 1022 x_812 := by rw [ex_812]; exact rg_sub t93_y30_1 (⟨by decide, by decide⟩ : rg 1 1 (1 : Int32)) (by decide) (by decide) (by decide) (by decide)
        have l_814 : lq x_812.toInt (y30_1.toInt + (-1)) := lqm (by rw [ex_812]; have q := tsub t93_y30_1 (⟨by decide, by decide⟩ : rg 1 1 (1 : Int32)) (by decide) (by decide); have r1 := lqe (lqm (by decide) : lq (1 : Int32).toInt 1); omega)
        refine lv_iload_n hx hb dX0_hear_97 rfl (lv_at hl 1 rfl) ?_
        refine lv_iand hx hb dX0_hear_98 ?_
        refine lv_topi (fun x_815 ex_815 => ?_)
        have h_816 : rg 0 1022 x_815 := by rw [ex_815]; exact rg_and h_813 (by decide) (by decide) (by decide)
        have o_817 : rl 0 x_815 x_812 := by rw [ex_815]; exact rl_and h_813 (by decide)
        have o_818 : rl 0 x_815 a1 := by rw [ex_815]; exact rl_and' i_a1 (by decide)
        refine lv_istore (lv' := [(5, .int x_815), (0, .ref h0), (1, .int a1), (2, .int a2), (3, .int a3), (4, .int y93_0)]) hx hb dX0_hear_99 hl (by decide) rfl (fun ls hl => ?_)
        refine lv_goto (tgt := 30) hx hb dX0_hear_101 (by decide) ?_
        exact ih y93_0 x_815 f93_1 trivial (rgw (lo := 0) (hi := 1023) h_816 (by decide) (by decide)) (rlm (by have q0 := rle o_817; have q1 := lqe l_814; have q2 := rle qy30_1_a1; omega)) (by have q0 := rle o_817; have q1 := lqe l_814; omega) H locs ls (oPsub hP [0, 1, 2, 3] rfl) (hD.sub [0, 1, 2, 3] (by decide) rfl) hS (lv_sub hl [1, 2, 3, 4, 5, 0] rfl)
      have J63_819 : ∀ (n : Nat) (y63_0 : Int32) (y63_1 : Int32) (f63_2 : Nat → Int32), True → rg 0 10 y63_1 → rg 1 1023 y30_1 → 10 < y63_1.toInt + (n : Int) → ∀ (H : Heap) (locs : List Loc) (ls : Array Slot), va_P D vwCl [(h0, .inr (0, [.ref h0_frees, .ref h0_low, .ref h0_high, .ref h0_letGoWeight, .ref h0_holdWeight, .ref h0_heardWith])), (aI ca h0_heardWith 10 f63_2), (aI ca h0_low 1024 F_h0_low), (aI ca h0_high 1024 F_h0_high)] H → va_D A [(h0, .inr (0, [.ref h0_frees, .ref h0_low, .ref h0_high, .ref h0_letGoWeight, .ref h0_holdWeight, .ref h0_heardWith])), (aI ca h0_heardWith 10 f63_2), (aI ca h0_low 1024 F_h0_low), (aI ca h0_high 1024 F_h0_high)] → va_S A s.heap H locs → lv_has ls 7 [(0, .ref h0), (1, .int a1), (2, .int a2), (3, .int a3), (4, .int y63_0), (5, .int y30_1), (6, .int y63_1)] → W p l e ({ frames := 0, cells := 0, slots := 0, locals := 0 } : Room) s m ([.ref h0, .int a1, .int a2, .int a3] : List Value).toArray below meth c H locs 0 0 (MQ below ((oQi D (fun (r : Int32) (u : (Nat → Int32)) => True) (fun (u : (Nat → Int32)) => [(h0, .inr (0, [.ref h0_frees, .ref h0_low, .ref h0_high, .ref h0_letGoWeight, .ref h0_holdWeight, .ref h0_heardWith])), (aI ca h0_heardWith 10 u), (aI ca h0_low 1024 F_h0_low), (aI ca h0_high 1024 F_h0_high)])) A) ([.ref h0, .int a1, .int a2, .int a3] : List Value).toArray s 0 0 A) (F0 m 63 ls []) := by
        intro n
        induction n with
        | zero => intro y63_0 y63_1 f63_2 _ hy63_1 t63_y30_1 hn; exact absurd hn (by have q9 := hy63_1.2; omega)
        | succ n ih =>
          intro y63_0 y63_1 f63_2 _ hy63_1 t63_y30_1 hn H locs ls hP hD hS hl
          refine lv_iload hx hb dX0_hear_63 (lv_at hl 6 rfl) ?_
          refine lv_bipush (v := 10) hx hb dX0_hear_65 (by decide) ?_
          refine lv_icmp_ge (tgt := 93) hx hb dX0_hear_67 (by decide) (fun c_834 => ?_) (fun c_834 => ?_)
          · skip
            have o_835 : rl 0 10 y63_1 := rl_le c_834
            have h_836 : rg 10 10 y63_1 := rl_y o_835 (⟨by decide, by decide⟩ : rg 10 10 (10 : Int32)) hy63_1 (by decide) (by decide)
            exact J93_811 y63_0 f63_2 t63_y30_1 H locs ls (oPsub hP [0, 1, 2, 3] rfl) (hD.sub [0, 1, 2, 3] (by decide) rfl) hS (lv_sub hl [0, 1, 2, 3, 4, 5] rfl)
          · skip
            have o_837 : rl 1 y63_1 10 := rl_nle c_834
            have h_838 : rg 0 9 y63_1 := rl_x o_837 hy63_1 (⟨by decide, by decide⟩ : rg 10 10 (10 : Int32)) (by decide) (by decide)
            refine lv_aload_n hx hb dX0_hear_70 rfl (lv_at hl 0 rfl) ?_
            refine va_get (D := D) (ci := 0) (v := .ref h0_heardWith) (C := RX0) (T := TX0) (N := 6) hx hb hts k2 hown hK.1 hP 0 rfl rfl 5 (by decide) k1 (fun _ h9 => h9) rfl dX0_hear_71 ?_
            refine lv_iload hx hb dX0_hear_74 (lv_at hl 6 rfl) ?_
            refine lv_dup2_11 hx hb dX0_hear_76 rfl rfl ?_
            refine va_iald hx hb hK.1 hP 1 0 rfl rfl (rg_in h_838 (by decide) (by decide)) dX0_hear_77 ?_
            refine lv_topi (fun x_839 ex_839 => ?_)
            refine lv_iload hx hb dX0_hear_78 (lv_at hl 5 rfl) ?_
            refine lv_iload hx hb dX0_hear_80 (lv_at hl 6 rfl) ?_
            refine lv_ishr hx hb dX0_hear_82 ?_
            refine lv_topi (fun x_840 ex_840 => ?_)
            refine lv_iconst (v := 1) hx hb dX0_hear_83 (by decide) ?_
            refine lv_iand hx hb dX0_hear_84 ?_
            refine lv_topi (fun x_841 ex_841 => ?_)
            have h_842 : rg 0 1 x_841 := by rw [ex_841]; exact rg_and' (⟨by decide, by decide⟩ : rg 1 1 (1 : Int32)) (by decide) (by decide) (by decide)
            refine lv_iadd hx hb dX0_hear_85 ?_
            refine lv_topi (fun x_843 ex_843 => ?_)
            refine va_iast hx hb hK.1 hP hD hS 1 0 rfl rfl (rg_in h_838 (by decide) (by decide)) dX0_hear_86 (fun H locs hP hD hS => ?_)
            obtain ⟨g_844, eg_844⟩ : ∃ y : Nat → Int32, y = upd f63_2 (y63_1 : Int32).toNatClampNeg (x_843 : Int32) := ⟨_, rfl⟩
            rw [← eg_844] at hP hD
            have hP : va_P D vwCl [(h0, .inr (0, [.ref h0_frees, .ref h0_low, .ref h0_high, .ref h0_letGoWeight, .ref h0_holdWeight, .ref h0_heardWith])), (aI ca h0_heardWith 10 g_844), (aI ca h0_low 1024 F_h0_low), (aI ca h0_high 1024 F_h0_high)] H := hP
            have hD : va_D A [(h0, .inr (0, [.ref h0_frees, .ref h0_low, .ref h0_high, .ref h0_letGoWeight, .ref h0_holdWeight, .ref h0_heardWith])), (aI ca h0_heardWith 10 g_844), (aI ca h0_low 1024 F_h0_low), (aI ca h0_high 1024 F_h0_high)] := hD
            obtain ⟨x_845, ex_845⟩ : ∃ y : Int32, y = y63_1 + 1 := ⟨_, rfl⟩
            have h_846 : rg 1 10 x_845 := by rw [ex_845]; exact rg_add h_838 (⟨by decide, by decide⟩ : rg 1 1 (1 : Int32)) (by decide) (by decide) (by decide) (by decide)
            have l_847 : lq x_845.toInt (y63_1.toInt + 1) := lqm (by rw [ex_845]; have q := tadd h_838 (⟨by decide, by decide⟩ : rg 1 1 (1 : Int32)) (by decide) (by decide); have r1 := lqe (lqm (by decide) : lq (1 : Int32).toInt 1); omega)
            refine lv_iinc (v := x_845) (lv' := [(6, .int x_845), (0, .ref h0), (1, .int a1), (2, .int a2), (3, .int a3), (4, .int y63_0), (5, .int y30_1)]) hx hb dX0_hear_87 hl (k := 6) rfl (by rw [ex_845]; rfl) (by decide) rfl (fun ls hl => ?_)
            refine lv_goto (tgt := 63) hx hb dX0_hear_90 (by decide) ?_
            exact ih y63_0 x_845 g_844 trivial (rgw (lo := 0) (hi := 10) h_846 (by decide) (by decide)) t63_y30_1 (by have q0 := lqe l_847; omega) H locs ls (oPsub hP [0, 1, 2, 3] rfl) (hD.sub [0, 1, 2, 3] (by decide) rfl) hS (lv_sub hl [1, 2, 3, 4, 5, 6, 0] rfl)
      refine lv_iload hx hb dX0_hear_30 (lv_at hl 5 rfl) ?_
      refine lv_if_le (tgt := 104) hx hb dX0_hear_32 (by decide) (fun c_848 => ?_) (fun c_848 => ?_)
      · skip
        have o_849 : rl 0 y30_1 0 := rl_le c_848
        have h_850 : rg 0 0 y30_1 := rl_x o_849 hy30_1 (⟨by decide, by decide⟩ : rg 0 0 (0 : Int32)) (by decide) (by decide)
        refine lv_iload hx hb dX0_hear_104 (lv_at hl 4 rfl) ?_
        exact oE_i hx hb hr rfl hlocks hP hD hS f30_2 [0, 1, 2, 3] rfl (by decide) trivial (Nat.le_of_ble_eq_true rfl) (Nat.le_of_ble_eq_true rfl) dX0_hear_106
      · skip
        have o_851 : rl 1 0 y30_1 := rl_nle c_848
        have h_852 : rg 1 1023 y30_1 := rl_y o_851 (⟨by decide, by decide⟩ : rg 0 0 (0 : Int32)) hy30_1 (by decide) (by decide)
        refine lv_aload_n hx hb dX0_hear_35 rfl (lv_at hl 0 rfl) ?_
        refine va_get (D := D) (ci := 0) (v := .ref h0_low) (C := RX0) (T := TX0) (N := 6) hx hb hts k2 hown hK.1 hP 0 rfl rfl 1 (by decide) k3 (fun _ h9 => h9) rfl dX0_hear_36 ?_
        refine lv_iload hx hb dX0_hear_39 (lv_at hl 5 rfl) ?_
        refine va_iald hx hb hK.1 hP 2 0 rfl rfl (rg_in h_852 (by decide) (by decide)) dX0_hear_41 ?_
        refine lv_topi (fun x_853 ex_853 => ?_)
        refine lv_iload_n hx hb dX0_hear_42 rfl (lv_at hl 2 rfl) ?_
        refine lv_icmp_ne (tgt := 93) hx hb dX0_hear_43 (by decide) (fun c_854 => ?_) (fun c_854 => ?_)
        · skip
          exact J93_811 y30_0 f30_2 h_852 H locs ls (oPsub hP [0, 1, 2, 3] rfl) (hD.sub [0, 1, 2, 3] (by decide) rfl) hS (lv_sub hl [0, 1, 2, 3, 4, 5] rfl)
        · skip
          have o_855 : rl 0 x_853 a2 := rl_eq c_854
          have o_856 : rl 0 a2 x_853 := rl_eq c_854.symm
          refine lv_aload_n hx hb dX0_hear_46 rfl (lv_at hl 0 rfl) ?_
          refine va_get (D := D) (ci := 0) (v := .ref h0_high) (C := RX0) (T := TX0) (N := 6) hx hb hts k2 hown hK.1 hP 0 rfl rfl 2 (by decide) k4 (fun _ h9 => h9) rfl dX0_hear_47 ?_
          refine lv_iload hx hb dX0_hear_50 (lv_at hl 5 rfl) ?_
          refine va_iald hx hb hK.1 hP 3 0 rfl rfl (rg_in h_852 (by decide) (by decide)) dX0_hear_52 ?_
          refine lv_topi (fun x_857 ex_857 => ?_)
          refine lv_iload_n hx hb dX0_hear_53 rfl (lv_at hl 3 rfl) ?_
          refine lv_icmp_ne (tgt := 93) hx hb dX0_hear_54 (by decide) (fun c_858 => ?_) (fun c_858 => ?_)
          · skip
            exact J93_811 y30_0 f30_2 h_852 H locs ls (oPsub hP [0, 1, 2, 3] rfl) (hD.sub [0, 1, 2, 3] (by decide) rfl) hS (lv_sub hl [0, 1, 2, 3, 4, 5] rfl)
          · skip
            have o_859 : rl 0 x_857 a3 := rl_eq c_858
            have o_860 : rl 0 a3 x_857 := rl_eq c_858.symm
            obtain ⟨x_861, ex_861⟩ : ∃ y : Int32, y = y30_0 + 1 := ⟨_, rfl⟩
            refine lv_iinc (v := x_861) (lv' := [(4, .int x_861), (0, .ref h0), (1, .int a1), (2, .int a2), (3, .int a3), (5, .int y30_1)]) hx hb dX0_hear_57 hl (k := 4) rfl (by rw [ex_861]; rfl) (by decide) rfl (fun ls hl => ?_)
            refine lv_iconst (v := 0) hx hb dX0_hear_60 (by decide) ?_
            refine lv_istore (lv' := [(6, .int 0), (4, .int x_861), (0, .ref h0), (1, .int a1), (2, .int a2), (3, .int a3), (5, .int y30_1)]) hx hb dX0_hear_61 hl (by decide) rfl (fun ls hl => ?_)
            exact J63_819 11 x_861 0 f30_2 trivial (⟨by decide, by decide⟩ : rg 0 10 (0 : Int32)) h_852 (by have q0 := (⟨by decide, by decide⟩ : rg 0 0 (0 : Int32)).1; omega) H locs ls (oPsub hP [0, 1, 2, 3] rfl) (hD.sub [0, 1, 2, 3] (by decide) rfl) hS (lv_sub hl [2, 3, 4, 5, 1, 6, 0] rfl)
  have J6_862 : ∀ (n : Nat) (y6_0 : Int32) (f6_1 : Nat → Int32), True → rg 0 10 y6_0 → 10 < y6_0.toInt + (n : Int) → ∀ (H : Heap) (locs : List Loc) (ls : Array Slot), va_P D vwCl [(h0, .inr (0, [.ref h0_frees, .ref h0_low, .ref h0_high, .ref h0_letGoWeight, .ref h0_holdWeight, .ref h0_heardWith])), (aI ca h0_heardWith 10 f6_1), (aI ca h0_low 1024 F_h0_low), (aI ca h0_high 1024 F_h0_high)] H → va_D A [(h0, .inr (0, [.ref h0_frees, .ref h0_low, .ref h0_high, .ref h0_letGoWeight, .ref h0_holdWeight, .ref h0_heardWith])), (aI ca h0_heardWith 10 f6_1), (aI ca h0_low 1024 F_h0_low), (aI ca h0_high 1024 F_h0_high)] → va_S A s.heap H locs → lv_has ls 7 [(0, .ref h0), (1, .int a1), (2, .int a2), (3, .int a3), (4, .int 0), (5, .int y6_0)] → W p l e ({ frames := 0, cells := 0, slots := 0, locals := 0 } : Room) s m ([.ref h0, .int a1, .int a2, .int a3] : List Value).toArray below meth c H locs 0 0 (MQ below ((oQi D (fun (r : Int32) (u : (Nat → Int32)) => True) (fun (u : (Nat → Int32)) => [(h0, .inr (0, [.ref h0_frees, .ref h0_low, .ref h0_high, .ref h0_letGoWeight, .ref h0_holdWeight, .ref h0_heardWith])), (aI ca h0_heardWith 10 u), (aI ca h0_low 1024 F_h0_low), (aI ca h0_high 1024 F_h0_high)])) A) ([.ref h0, .int a1, .int a2, .int a3] : List Value).toArray s 0 0 A) (F0 m 6 ls []) := by
    intro n
    induction n with
    | zero => intro y6_0 f6_1 _ hy6_0 hn; exact absurd hn (by have q9 := hy6_0.2; omega)
    | succ n ih =>
      intro y6_0 f6_1 _ hy6_0 hn H locs ls hP hD hS hl
      refine lv_iload hx hb dX0_hear_6 (lv_at hl 5 rfl) ?_
      refine lv_bipush (v := 10) hx hb dX0_hear_8 (by decide) ?_
      refine lv_icmp_ge (tgt := 27) hx hb dX0_hear_10 (by decide) (fun c_872 => ?_) (fun c_872 => ?_)
      · skip
        have o_873 : rl 0 10 y6_0 := rl_le c_872
        have h_874 : rg 10 10 y6_0 := rl_y o_873 (⟨by decide, by decide⟩ : rg 10 10 (10 : Int32)) hy6_0 (by decide) (by decide)
        refine lv_iload_n hx hb dX0_hear_27 rfl (lv_at hl 1 rfl) ?_
        refine lv_istore (lv' := [(5, .int a1), (0, .ref h0), (1, .int a1), (2, .int a2), (3, .int a3), (4, .int 0)]) hx hb dX0_hear_28 hl (by decide) rfl (fun ls hl => ?_)
        exact J30_740 1024 0 a1 f6_1 trivial i_a1 (rlm (by omega)) (by have q0 := i_a1.2; omega) H locs ls (oPsub hP [0, 1, 2, 3] rfl) (hD.sub [0, 1, 2, 3] (by decide) rfl) hS (lv_sub hl [1, 2, 3, 4, 5, 0] rfl)
      · skip
        have o_875 : rl 1 y6_0 10 := rl_nle c_872
        have h_876 : rg 0 9 y6_0 := rl_x o_875 hy6_0 (⟨by decide, by decide⟩ : rg 10 10 (10 : Int32)) (by decide) (by decide)
        refine lv_aload_n hx hb dX0_hear_13 rfl (lv_at hl 0 rfl) ?_
        refine va_get (D := D) (ci := 0) (v := .ref h0_heardWith) (C := RX0) (T := TX0) (N := 6) hx hb hts k2 hown hK.1 hP 0 rfl rfl 5 (by decide) k1 (fun _ h9 => h9) rfl dX0_hear_14 ?_
        refine lv_iload hx hb dX0_hear_17 (lv_at hl 5 rfl) ?_
        refine lv_iconst (v := 0) hx hb dX0_hear_19 (by decide) ?_
        refine va_iast hx hb hK.1 hP hD hS 1 0 rfl rfl (rg_in h_876 (by decide) (by decide)) dX0_hear_20 (fun H locs hP hD hS => ?_)
        obtain ⟨g_877, eg_877⟩ : ∃ y : Nat → Int32, y = upd f6_1 (y6_0 : Int32).toNatClampNeg (0 : Int32) := ⟨_, rfl⟩
        rw [← eg_877] at hP hD
        have hP : va_P D vwCl [(h0, .inr (0, [.ref h0_frees, .ref h0_low, .ref h0_high, .ref h0_letGoWeight, .ref h0_holdWeight, .ref h0_heardWith])), (aI ca h0_heardWith 10 g_877), (aI ca h0_low 1024 F_h0_low), (aI ca h0_high 1024 F_h0_high)] H := hP
        have hD : va_D A [(h0, .inr (0, [.ref h0_frees, .ref h0_low, .ref h0_high, .ref h0_letGoWeight, .ref h0_holdWeight, .ref h0_heardWith])), (aI ca h0_heardWith 10 g_877), (aI ca h0_low 1024 F_h0_low), (aI ca h0_high 1024 F_h0_high)] := hD
        obtain ⟨x_878, ex_878⟩ : ∃ y : Int32, y = y6_0 + 1 := ⟨_, rfl⟩
        have h_879 : rg 1 10 x_878 := by rw [ex_878]; exact rg_add h_876 (⟨by decide, by decide⟩ : rg 1 1 (1 : Int32)) (by decide) (by decide) (by decide) (by decide)
        have l_880 : lq x_878.toInt (y6_0.toInt + 1) := lqm (by rw [ex_878]; have q := tadd h_876 (⟨by decide, by decide⟩ : rg 1 1 (1 : Int32)) (by decide) (by decide); have r1 := lqe (lqm (by decide) : lq (1 : Int32).toInt 1); omega)
        refine lv_iinc (v := x_878) (lv' := [(5, .int x_878), (0, .ref h0), (1, .int a1), (2, .int a2), (3, .int a3), (4, .int 0)]) hx hb dX0_hear_21 hl (k := 5) rfl (by rw [ex_878]; rfl) (by decide) rfl (fun ls hl => ?_)
        refine lv_goto (tgt := 6) hx hb dX0_hear_24 (by decide) ?_
        exact ih x_878 g_877 trivial (rgw (lo := 0) (hi := 10) h_879 (by decide) (by decide)) (by have q0 := lqe l_880; omega) H locs ls (oPsub hP [0, 1, 2, 3] rfl) (hD.sub [0, 1, 2, 3] (by decide) rfl) hS (lv_sub hl [1, 2, 3, 4, 5, 0] rfl)
  refine lv_iconst (v := 0) hx hb dX0_hear_0 (by decide) ?_
  refine lv_istore (lv' := [(4, .int 0), (0, .ref h0), (1, .int a1), (2, .int a2), (3, .int a3)]) hx hb dX0_hear_1 hl (by decide) rfl (fun ls hl => ?_)
  refine lv_iconst (v := 0) hx hb dX0_hear_3 (by decide) ?_
  refine lv_istore (lv' := [(5, .int 0), (4, .int 0), (0, .ref h0), (1, .int a1), (2, .int a2), (3, .int a3)]) hx hb dX0_hear_4 hl (by decide) rfl (fun ls hl => ?_)
  exact J6_862 11 0 F_h0_heardWith trivial (⟨by decide, by decide⟩ : rg 0 10 (0 : Int32)) (by have q0 := (⟨by decide, by decide⟩ : rg 0 0 (0 : Int32)).1; omega) H locs ls (oPsub hP [0, 1, 2, 3] rfl) (hD.sub [0, 1, 2, 3] (by decide) rfl) hS (lv_sub hl [2, 3, 4, 5, 1, 0] rfl)
theorem dX0_inAllHeard_0 : decode cX0_inAllHeard 0 = .ok (.iconst 0, 1) := by decide +kernel
theorem dX0_inAllHeard_1 : decode cX0_inAllHeard 1 = .ok (.istore_n 2, 1) := by decide +kernel
theorem dX0_inAllHeard_2 : decode cX0_inAllHeard 2 = .ok (.iconst 0, 1) := by decide +kernel
theorem dX0_inAllHeard_3 : decode cX0_inAllHeard 3 = .ok (.istore_n 3, 1) := by decide +kernel
theorem dX0_inAllHeard_4 : decode cX0_inAllHeard 4 = .ok (.iload_n 3, 1) := by decide +kernel
theorem dX0_inAllHeard_5 : decode cX0_inAllHeard 5 = .ok (.bipush 10, 2) := by decide +kernel
theorem dX0_inAllHeard_7 : decode cX0_inAllHeard 7 = .ok (.if_icmp .ge 25, 3) := by decide +kernel
theorem dX0_inAllHeard_10 : decode cX0_inAllHeard 10 = .ok (.aload_n 0, 1) := by decide +kernel
theorem dX0_inAllHeard_11 : decode cX0_inAllHeard 11 = .ok (.getfield 29, 3) := by decide +kernel
theorem dX0_inAllHeard_14 : decode cX0_inAllHeard 14 = .ok (.iload_n 3, 1) := by decide +kernel
theorem dX0_inAllHeard_15 : decode cX0_inAllHeard 15 = .ok (.iaload, 1) := by decide +kernel
theorem dX0_inAllHeard_16 : decode cX0_inAllHeard 16 = .ok (.iload_n 1, 1) := by decide +kernel
theorem dX0_inAllHeard_17 : decode cX0_inAllHeard 17 = .ok (.if_icmp .ne 9, 3) := by decide +kernel
theorem dX0_inAllHeard_20 : decode cX0_inAllHeard 20 = .ok (.iload_n 2, 1) := by decide +kernel
theorem dX0_inAllHeard_21 : decode cX0_inAllHeard 21 = .ok (.iconst 1, 1) := by decide +kernel
theorem dX0_inAllHeard_22 : decode cX0_inAllHeard 22 = .ok (.iload_n 3, 1) := by decide +kernel
theorem dX0_inAllHeard_23 : decode cX0_inAllHeard 23 = .ok (.ishl, 1) := by decide +kernel
theorem dX0_inAllHeard_24 : decode cX0_inAllHeard 24 = .ok (.ior, 1) := by decide +kernel
theorem dX0_inAllHeard_25 : decode cX0_inAllHeard 25 = .ok (.istore_n 2, 1) := by decide +kernel
theorem dX0_inAllHeard_26 : decode cX0_inAllHeard 26 = .ok (.iinc 3 1, 3) := by decide +kernel
theorem dX0_inAllHeard_29 : decode cX0_inAllHeard 29 = .ok (.goto (-25), 3) := by decide +kernel
theorem dX0_inAllHeard_32 : decode cX0_inAllHeard 32 = .ok (.iload_n 2, 1) := by decide +kernel
theorem dX0_inAllHeard_33 : decode cX0_inAllHeard 33 = .ok (.ireturn, 1) := by decide +kernel
set_option maxHeartbeats 4000000 in
set_option maxRecDepth 100000 in
theorem s_X0_inAllHeard (l : Launch) (D : va_G) (ca : Nat → ClassId) (sz : Nat) (h0 : Nat) (a1 : Int32) (h0_frees : Nat) (h0_low : Nat) (h0_high : Nat) (h0_letGoWeight : Nat) (h0_holdWeight : Nat) (h0_heardWith : Nat) (F_h0_heardWith : Nat → Int32)  : oMet l yX0_inAllHeard wsX0_inAllHeard ({ frames := 0, cells := 0, slots := 0, locals := 0 } : Room) [.ref h0, .int a1] D ca sz [(h0, .inr (0, [.ref h0_frees, .ref h0_low, .ref h0_high, .ref h0_letGoWeight, .ref h0_holdWeight, .ref h0_heardWith])), (aI ca h0_heardWith 10 F_h0_heardWith)] (oQi D (fun (r : Int32) (u : Unit) => (rg 0 1023 r)) (fun (u : Unit) => [(h0, .inr (0, [.ref h0_frees, .ref h0_low, .ref h0_high, .ref h0_letGoWeight, .ref h0_holdWeight, .ref h0_heardWith])), (aI ca h0_heardWith 10 F_h0_heardWith)])) 0 0 := by
  refine oM (cc := cX0_inAllHeard) (maxL := 4) (ret := (some .int)) (by decide) rfl (Nat.le_of_ble_eq_true rfl) [(0, .ref h0), (1, .int a1)] rfl ?_
  intro p e s m below meth c A H locs ls hx hb hr hml hts hown hlocks hin hK hP hD hA hS hl
  have hown : s.vm.findClass RX0 = some m.cls := hown
  have k1 := hts (.fieldLink RX0 29 "LidCourt$Bench" "heardWith" "[I") (by decide +kernel)
  have k2 : ∀ w ∈ wsX00, w ∈ wsX0_inAllHeard := fun _ h => List.mem_cons_of_mem _ (List.mem_append_right _ h)
  have J4_54 : ∀ (n : Nat) (y4_0 : Int32) (y4_1 : Int32), True → rg 0 1023 y4_0 → rg 0 10 y4_1 → 10 < y4_1.toInt + (n : Int) → ∀ (H : Heap) (locs : List Loc) (ls : Array Slot), va_P D vwCl [(h0, .inr (0, [.ref h0_frees, .ref h0_low, .ref h0_high, .ref h0_letGoWeight, .ref h0_holdWeight, .ref h0_heardWith])), (aI ca h0_heardWith 10 F_h0_heardWith)] H → va_D A [(h0, .inr (0, [.ref h0_frees, .ref h0_low, .ref h0_high, .ref h0_letGoWeight, .ref h0_holdWeight, .ref h0_heardWith])), (aI ca h0_heardWith 10 F_h0_heardWith)] → va_S A s.heap H locs → lv_has ls 4 [(0, .ref h0), (1, .int a1), (2, .int y4_0), (3, .int y4_1)] → W p l e ({ frames := 0, cells := 0, slots := 0, locals := 0 } : Room) s m ([.ref h0, .int a1] : List Value).toArray below meth c H locs 0 0 (MQ below ((oQi D (fun (r : Int32) (u : Unit) => (rg 0 1023 r)) (fun (u : Unit) => [(h0, .inr (0, [.ref h0_frees, .ref h0_low, .ref h0_high, .ref h0_letGoWeight, .ref h0_holdWeight, .ref h0_heardWith])), (aI ca h0_heardWith 10 F_h0_heardWith)])) A) ([.ref h0, .int a1] : List Value).toArray s 0 0 A) (F0 m 4 ls []) := by
    intro n
    induction n with
    | zero => intro y4_0 y4_1 _ hy4_0 hy4_1 hn; exact absurd hn (by have q9 := hy4_1.2; omega)
    | succ n ih =>
      intro y4_0 y4_1 _ hy4_0 hy4_1 hn H locs ls hP hD hS hl
      have J26_71 : ∀ (y26_0 : Int32), rg 0 1023 y26_0 → rg 0 9 y4_1 → ∀ (H : Heap) (locs : List Loc) (ls : Array Slot), va_P D vwCl [(h0, .inr (0, [.ref h0_frees, .ref h0_low, .ref h0_high, .ref h0_letGoWeight, .ref h0_holdWeight, .ref h0_heardWith])), (aI ca h0_heardWith 10 F_h0_heardWith)] H → va_D A [(h0, .inr (0, [.ref h0_frees, .ref h0_low, .ref h0_high, .ref h0_letGoWeight, .ref h0_holdWeight, .ref h0_heardWith])), (aI ca h0_heardWith 10 F_h0_heardWith)] → va_S A s.heap H locs → lv_has ls 4 [(0, .ref h0), (1, .int a1), (2, .int y26_0), (3, .int y4_1)] → W p l e ({ frames := 0, cells := 0, slots := 0, locals := 0 } : Room) s m ([.ref h0, .int a1] : List Value).toArray below meth c H locs 0 0 (MQ below ((oQi D (fun (r : Int32) (u : Unit) => (rg 0 1023 r)) (fun (u : Unit) => [(h0, .inr (0, [.ref h0_frees, .ref h0_low, .ref h0_high, .ref h0_letGoWeight, .ref h0_holdWeight, .ref h0_heardWith])), (aI ca h0_heardWith 10 F_h0_heardWith)])) A) ([.ref h0, .int a1] : List Value).toArray s 0 0 A) (F0 m 26 ls []) := by
        intro y26_0 hy26_0 t26_y4_1 H locs ls hP hD hS hl
        obtain ⟨x_72, ex_72⟩ : ∃ y : Int32, y = y4_1 + 1 := ⟨_, rfl⟩
        have h_73 : rg 1 10 x_72 := by rw [ex_72]; exact rg_add t26_y4_1 (⟨by decide, by decide⟩ : rg 1 1 (1 : Int32)) (by decide) (by decide) (by decide) (by decide)
        have l_74 : lq x_72.toInt (y4_1.toInt + 1) := lqm (by rw [ex_72]; have q := tadd t26_y4_1 (⟨by decide, by decide⟩ : rg 1 1 (1 : Int32)) (by decide) (by decide); have r1 := lqe (lqm (by decide) : lq (1 : Int32).toInt 1); omega)
        refine lv_iinc (v := x_72) (lv' := [(3, .int x_72), (0, .ref h0), (1, .int a1), (2, .int y26_0)]) hx hb dX0_inAllHeard_26 hl (k := 3) rfl (by rw [ex_72]; rfl) (by decide) rfl (fun ls hl => ?_)
        refine lv_goto (tgt := 4) hx hb dX0_inAllHeard_29 (by decide) ?_
        exact ih y26_0 x_72 trivial hy26_0 (rgw (lo := 0) (hi := 10) h_73 (by decide) (by decide)) (by have q0 := lqe l_74; omega) H locs ls (oPsub hP [0, 1] rfl) (hD.sub [0, 1] (by decide) rfl) hS (lv_sub hl [1, 2, 3, 0] rfl)
      refine lv_iload_n hx hb dX0_inAllHeard_4 rfl (lv_at hl 3 rfl) ?_
      refine lv_bipush (v := 10) hx hb dX0_inAllHeard_5 (by decide) ?_
      refine lv_icmp_ge (tgt := 32) hx hb dX0_inAllHeard_7 (by decide) (fun c_75 => ?_) (fun c_75 => ?_)
      · skip
        have o_76 : rl 0 10 y4_1 := rl_le c_75
        have h_77 : rg 10 10 y4_1 := rl_y o_76 (⟨by decide, by decide⟩ : rg 10 10 (10 : Int32)) hy4_1 (by decide) (by decide)
        refine lv_iload_n hx hb dX0_inAllHeard_32 rfl (lv_at hl 2 rfl) ?_
        exact oE_i hx hb hr rfl hlocks hP hD hS () [0, 1] rfl (by decide) hy4_0 (Nat.le_of_ble_eq_true rfl) (Nat.le_of_ble_eq_true rfl) dX0_inAllHeard_33
      · skip
        have o_78 : rl 1 y4_1 10 := rl_nle c_75
        have h_79 : rg 0 9 y4_1 := rl_x o_78 hy4_1 (⟨by decide, by decide⟩ : rg 10 10 (10 : Int32)) (by decide) (by decide)
        refine lv_aload_n hx hb dX0_inAllHeard_10 rfl (lv_at hl 0 rfl) ?_
        refine va_get (D := D) (ci := 0) (v := .ref h0_heardWith) (C := RX0) (T := TX0) (N := 6) hx hb hts k2 hown hK.1 hP 0 rfl rfl 5 (by decide) k1 (fun _ h9 => h9) rfl dX0_inAllHeard_11 ?_
        refine lv_iload_n hx hb dX0_inAllHeard_14 rfl (lv_at hl 3 rfl) ?_
        refine va_iald hx hb hK.1 hP 1 0 rfl rfl (rg_in h_79 (by decide) (by decide)) dX0_inAllHeard_15 ?_
        refine lv_topi (fun x_80 ex_80 => ?_)
        refine lv_iload_n hx hb dX0_inAllHeard_16 rfl (lv_at hl 1 rfl) ?_
        refine lv_icmp_ne (tgt := 26) hx hb dX0_inAllHeard_17 (by decide) (fun c_81 => ?_) (fun c_81 => ?_)
        · skip
          exact J26_71 y4_0 hy4_0 h_79 H locs ls (oPsub hP [0, 1] rfl) (hD.sub [0, 1] (by decide) rfl) hS (lv_sub hl [0, 1, 2, 3] rfl)
        · skip
          have o_82 : rl 0 x_80 a1 := rl_eq c_81
          have o_83 : rl 0 a1 x_80 := rl_eq c_81.symm
          refine lv_iload_n hx hb dX0_inAllHeard_20 rfl (lv_at hl 2 rfl) ?_
          refine lv_iconst (v := 1) hx hb dX0_inAllHeard_21 (by decide) ?_
          refine lv_iload_n hx hb dX0_inAllHeard_22 rfl (lv_at hl 3 rfl) ?_
          refine lv_ishl hx hb dX0_inAllHeard_23 ?_
          refine lv_topi (fun x_84 ex_84 => ?_)
          have h_85 : rg 1 512 x_84 := by rw [ex_84]; exact rg_shl1 h_79 (by decide) (by decide) (by decide) (by decide)
          refine lv_ior hx hb dX0_inAllHeard_24 ?_
          refine lv_topi (fun x_86 ex_86 => ?_)
          have h_87 : rg 0 1023 x_86 := by rw [ex_86]; exact rg_or 10 hy4_0 h_85 (by decide) (by decide) (by decide) (by decide) (by decide) (by decide) (by decide)
          refine lv_istore_n (lv' := [(2, .int x_86), (0, .ref h0), (1, .int a1), (3, .int y4_1)]) hx hb dX0_inAllHeard_25 rfl hl (by decide) rfl (fun ls hl => ?_)
          exact J26_71 x_86 h_87 h_79 H locs ls (oPsub hP [0, 1] rfl) (hD.sub [0, 1] (by decide) rfl) hS (lv_sub hl [1, 2, 0, 3] rfl)
  refine lv_iconst (v := 0) hx hb dX0_inAllHeard_0 (by decide) ?_
  refine lv_istore_n (lv' := [(2, .int 0), (0, .ref h0), (1, .int a1)]) hx hb dX0_inAllHeard_1 rfl hl (by decide) rfl (fun ls hl => ?_)
  refine lv_iconst (v := 0) hx hb dX0_inAllHeard_2 (by decide) ?_
  refine lv_istore_n (lv' := [(3, .int 0), (2, .int 0), (0, .ref h0), (1, .int a1)]) hx hb dX0_inAllHeard_3 rfl hl (by decide) rfl (fun ls hl => ?_)
  exact J4_54 11 0 0 trivial (⟨by decide, by decide⟩ : rg 0 1023 (0 : Int32)) (⟨by decide, by decide⟩ : rg 0 10 (0 : Int32)) (by have q0 := (⟨by decide, by decide⟩ : rg 0 0 (0 : Int32)).1; omega) H locs ls (oPsub hP [0, 1] rfl) (hD.sub [0, 1] (by decide) rfl) hS (lv_sub hl [2, 3, 1, 0] rfl)
theorem dX0_inHalfHeard_0 : decode cX0_inHalfHeard 0 = .ok (.iconst (-1), 1) := by decide +kernel
theorem dX0_inHalfHeard_1 : decode cX0_inHalfHeard 1 = .ok (.istore_n 3, 1) := by decide +kernel
theorem dX0_inHalfHeard_2 : decode cX0_inHalfHeard 2 = .ok (.iconst 0, 1) := by decide +kernel
theorem dX0_inHalfHeard_3 : decode cX0_inHalfHeard 3 = .ok (.istore 4, 2) := by decide +kernel
theorem dX0_inHalfHeard_5 : decode cX0_inHalfHeard 5 = .ok (.iconst 0, 1) := by decide +kernel
theorem dX0_inHalfHeard_6 : decode cX0_inHalfHeard 6 = .ok (.istore 5, 2) := by decide +kernel
theorem dX0_inHalfHeard_8 : decode cX0_inHalfHeard 8 = .ok (.iload 5, 2) := by decide +kernel
theorem dX0_inHalfHeard_10 : decode cX0_inHalfHeard 10 = .ok (.bipush 10, 2) := by decide +kernel
theorem dX0_inHalfHeard_12 : decode cX0_inHalfHeard 12 = .ok (.if_icmp .ge 53, 3) := by decide +kernel
theorem dX0_inHalfHeard_15 : decode cX0_inHalfHeard 15 = .ok (.iconst 2, 1) := by decide +kernel
theorem dX0_inHalfHeard_16 : decode cX0_inHalfHeard 16 = .ok (.aload_n 0, 1) := by decide +kernel
theorem dX0_inHalfHeard_17 : decode cX0_inHalfHeard 17 = .ok (.getfield 29, 3) := by decide +kernel
theorem dX0_inHalfHeard_20 : decode cX0_inHalfHeard 20 = .ok (.iload 5, 2) := by decide +kernel
theorem dX0_inHalfHeard_22 : decode cX0_inHalfHeard 22 = .ok (.iaload, 1) := by decide +kernel
theorem dX0_inHalfHeard_23 : decode cX0_inHalfHeard 23 = .ok (.imul, 1) := by decide +kernel
theorem dX0_inHalfHeard_24 : decode cX0_inHalfHeard 24 = .ok (.iload_n 2, 1) := by decide +kernel
theorem dX0_inHalfHeard_25 : decode cX0_inHalfHeard 25 = .ok (.isub, 1) := by decide +kernel
theorem dX0_inHalfHeard_26 : decode cX0_inHalfHeard 26 = .ok (.invokestatic 83, 3) := by decide +kernel
theorem dX0_inHalfHeard_29 : decode cX0_inHalfHeard 29 = .ok (.istore 6, 2) := by decide +kernel
theorem dX0_inHalfHeard_31 : decode cX0_inHalfHeard 31 = .ok (.iload_n 1, 1) := by decide +kernel
theorem dX0_inHalfHeard_32 : decode cX0_inHalfHeard 32 = .ok (.iload 5, 2) := by decide +kernel
theorem dX0_inHalfHeard_34 : decode cX0_inHalfHeard 34 = .ok (.ishr, 1) := by decide +kernel
theorem dX0_inHalfHeard_35 : decode cX0_inHalfHeard 35 = .ok (.iconst 1, 1) := by decide +kernel
theorem dX0_inHalfHeard_36 : decode cX0_inHalfHeard 36 = .ok (.iand, 1) := by decide +kernel
theorem dX0_inHalfHeard_37 : decode cX0_inHalfHeard 37 = .ok (.ifCond .eq 22, 3) := by decide +kernel
theorem dX0_inHalfHeard_40 : decode cX0_inHalfHeard 40 = .ok (.iload_n 3, 1) := by decide +kernel
theorem dX0_inHalfHeard_41 : decode cX0_inHalfHeard 41 = .ok (.iconst (-1), 1) := by decide +kernel
theorem dX0_inHalfHeard_42 : decode cX0_inHalfHeard 42 = .ok (.if_icmp .eq 10, 3) := by decide +kernel
theorem dX0_inHalfHeard_45 : decode cX0_inHalfHeard 45 = .ok (.iload 6, 2) := by decide +kernel
theorem dX0_inHalfHeard_47 : decode cX0_inHalfHeard 47 = .ok (.iload 4, 2) := by decide +kernel
theorem dX0_inHalfHeard_49 : decode cX0_inHalfHeard 49 = .ok (.if_icmp .ge 10, 3) := by decide +kernel
theorem dX0_inHalfHeard_52 : decode cX0_inHalfHeard 52 = .ok (.iload 5, 2) := by decide +kernel
theorem dX0_inHalfHeard_54 : decode cX0_inHalfHeard 54 = .ok (.istore_n 3, 1) := by decide +kernel
theorem dX0_inHalfHeard_55 : decode cX0_inHalfHeard 55 = .ok (.iload 6, 2) := by decide +kernel
theorem dX0_inHalfHeard_57 : decode cX0_inHalfHeard 57 = .ok (.istore 4, 2) := by decide +kernel
theorem dX0_inHalfHeard_59 : decode cX0_inHalfHeard 59 = .ok (.iinc 5 1, 3) := by decide +kernel
theorem dX0_inHalfHeard_62 : decode cX0_inHalfHeard 62 = .ok (.goto (-54), 3) := by decide +kernel
theorem dX0_inHalfHeard_65 : decode cX0_inHalfHeard 65 = .ok (.iload_n 3, 1) := by decide +kernel
theorem dX0_inHalfHeard_66 : decode cX0_inHalfHeard 66 = .ok (.ireturn, 1) := by decide +kernel
set_option maxHeartbeats 4000000 in
set_option maxRecDepth 100000 in
theorem s_X0_inHalfHeard (l : Launch) (D : va_G) (ca : Nat → ClassId) (sz : Nat) (h0 : Nat) (a1 : Int32) (a2 : Int32) (h0_frees : Nat) (h0_low : Nat) (h0_high : Nat) (h0_letGoWeight : Nat) (h0_holdWeight : Nat) (h0_heardWith : Nat) (F_h0_heardWith : Nat → Int32)  : oMet l yX0_inHalfHeard wsX0_inHalfHeard ({ frames := 1, cells := 0, slots := 0, locals := 13 } : Room) [.ref h0, .int a1, .int a2] D ca sz [(h0, .inr (0, [.ref h0_frees, .ref h0_low, .ref h0_high, .ref h0_letGoWeight, .ref h0_holdWeight, .ref h0_heardWith])), (aI ca h0_heardWith 10 F_h0_heardWith)] (oQi D (fun (r : Int32) (u : Unit) => (rg (-1) 9 r)) (fun (u : Unit) => [(h0, .inr (0, [.ref h0_frees, .ref h0_low, .ref h0_high, .ref h0_letGoWeight, .ref h0_holdWeight, .ref h0_heardWith])), (aI ca h0_heardWith 10 F_h0_heardWith)])) 0 0 := by
  refine oM (cc := cX0_inHalfHeard) (maxL := 7) (ret := (some .int)) (by decide) rfl (Nat.le_of_ble_eq_true rfl) [(0, .ref h0), (1, .int a1), (2, .int a2)] rfl ?_
  intro p e s m below meth c A H locs ls hx hb hr hml hts hown hlocks hin hK hP hD hA hS hl
  have hown : s.vm.findClass RX0 = some m.cls := hown
  have k1 := hts (.fieldLink RX0 29 "LidCourt$Bench" "heardWith" "[I") (by decide +kernel)
  have k2 : ∀ w ∈ wsX00, w ∈ wsX0_inHalfHeard := fun _ h => List.mem_cons_of_mem _ (List.mem_append_right _ h)
  have k3 := hts (.methodLink RX0 83 Lib.Math.abs.name) (by decide +kernel)
  have k4 := hts (.static Lib.Math.abs.name) (by decide +kernel)
  have k5 := hts (.initialized "java/lang/Math") (by decide +kernel)
  have k6 := hts (.code Lib.Math.abs.name Lib.Math.abs.code 1 (some .int)) (by decide +kernel)
  have J8_143 : ∀ (n : Nat) (y8_0 : Int32) (y8_1 : Int32) (y8_2 : Int32), True → rg (-1) 9 y8_0 → rg 0 10 y8_2 → 10 < y8_2.toInt + (n : Int) → ∀ (H : Heap) (locs : List Loc) (ls : Array Slot), va_P D vwCl [(h0, .inr (0, [.ref h0_frees, .ref h0_low, .ref h0_high, .ref h0_letGoWeight, .ref h0_holdWeight, .ref h0_heardWith])), (aI ca h0_heardWith 10 F_h0_heardWith)] H → va_D A [(h0, .inr (0, [.ref h0_frees, .ref h0_low, .ref h0_high, .ref h0_letGoWeight, .ref h0_holdWeight, .ref h0_heardWith])), (aI ca h0_heardWith 10 F_h0_heardWith)] → va_S A s.heap H locs → lv_has ls 7 [(0, .ref h0), (1, .int a1), (2, .int a2), (3, .int y8_0), (4, .int y8_1), (5, .int y8_2)] → W p l e ({ frames := 1, cells := 0, slots := 0, locals := 13 } : Room) s m ([.ref h0, .int a1, .int a2] : List Value).toArray below meth c H locs 0 0 (MQ below ((oQi D (fun (r : Int32) (u : Unit) => (rg (-1) 9 r)) (fun (u : Unit) => [(h0, .inr (0, [.ref h0_frees, .ref h0_low, .ref h0_high, .ref h0_letGoWeight, .ref h0_holdWeight, .ref h0_heardWith])), (aI ca h0_heardWith 10 F_h0_heardWith)])) A) ([.ref h0, .int a1, .int a2] : List Value).toArray s 0 0 A) (F0 m 8 ls []) := by
    intro n
    induction n with
    | zero => intro y8_0 y8_1 y8_2 _ hy8_0 hy8_2 hn; exact absurd hn (by have q9 := hy8_2.2; omega)
    | succ n ih =>
      intro y8_0 y8_1 y8_2 _ hy8_0 hy8_2 hn H locs ls hP hD hS hl
      have J59_174 : ∀ (y59_0 : Int32) (y59_1 : Int32), rg (-1) 9 y59_0 → rg 0 9 y8_2 → ∀ (H : Heap) (locs : List Loc) (ls : Array Slot), va_P D vwCl [(h0, .inr (0, [.ref h0_frees, .ref h0_low, .ref h0_high, .ref h0_letGoWeight, .ref h0_holdWeight, .ref h0_heardWith])), (aI ca h0_heardWith 10 F_h0_heardWith)] H → va_D A [(h0, .inr (0, [.ref h0_frees, .ref h0_low, .ref h0_high, .ref h0_letGoWeight, .ref h0_holdWeight, .ref h0_heardWith])), (aI ca h0_heardWith 10 F_h0_heardWith)] → va_S A s.heap H locs → lv_has ls 7 [(0, .ref h0), (1, .int a1), (2, .int a2), (3, .int y59_0), (4, .int y59_1), (5, .int y8_2)] → W p l e ({ frames := 1, cells := 0, slots := 0, locals := 13 } : Room) s m ([.ref h0, .int a1, .int a2] : List Value).toArray below meth c H locs 0 0 (MQ below ((oQi D (fun (r : Int32) (u : Unit) => (rg (-1) 9 r)) (fun (u : Unit) => [(h0, .inr (0, [.ref h0_frees, .ref h0_low, .ref h0_high, .ref h0_letGoWeight, .ref h0_holdWeight, .ref h0_heardWith])), (aI ca h0_heardWith 10 F_h0_heardWith)])) A) ([.ref h0, .int a1, .int a2] : List Value).toArray s 0 0 A) (F0 m 59 ls []) := by
        intro y59_0 y59_1 hy59_0 t59_y8_2 H locs ls hP hD hS hl
        obtain ⟨x_175, ex_175⟩ : ∃ y : Int32, y = y8_2 + 1 := ⟨_, rfl⟩
        have h_176 : rg 1 10 x_175 := by rw [ex_175]; exact rg_add t59_y8_2 (⟨by decide, by decide⟩ : rg 1 1 (1 : Int32)) (by decide) (by decide) (by decide) (by decide)
        have l_177 : lq x_175.toInt (y8_2.toInt + 1) := lqm (by rw [ex_175]; have q := tadd t59_y8_2 (⟨by decide, by decide⟩ : rg 1 1 (1 : Int32)) (by decide) (by decide); have r1 := lqe (lqm (by decide) : lq (1 : Int32).toInt 1); omega)
        refine lv_iinc (v := x_175) (lv' := [(5, .int x_175), (0, .ref h0), (1, .int a1), (2, .int a2), (3, .int y59_0), (4, .int y59_1)]) hx hb dX0_inHalfHeard_59 hl (k := 5) rfl (by rw [ex_175]; rfl) (by decide) rfl (fun ls hl => ?_)
        refine lv_goto (tgt := 8) hx hb dX0_inHalfHeard_62 (by decide) ?_
        exact ih y59_0 y59_1 x_175 trivial hy59_0 (rgw (lo := 0) (hi := 10) h_176 (by decide) (by decide)) (by have q0 := lqe l_177; omega) H locs ls (oPsub hP [0, 1] rfl) (hD.sub [0, 1] (by decide) rfl) hS (lv_sub hl [1, 2, 3, 4, 5, 0] rfl)
      have J52_178 : ∀ (y52_0 : Int32), rg 0 9 y8_2 → ∀ (H : Heap) (locs : List Loc) (ls : Array Slot), va_P D vwCl [(h0, .inr (0, [.ref h0_frees, .ref h0_low, .ref h0_high, .ref h0_letGoWeight, .ref h0_holdWeight, .ref h0_heardWith])), (aI ca h0_heardWith 10 F_h0_heardWith)] H → va_D A [(h0, .inr (0, [.ref h0_frees, .ref h0_low, .ref h0_high, .ref h0_letGoWeight, .ref h0_holdWeight, .ref h0_heardWith])), (aI ca h0_heardWith 10 F_h0_heardWith)] → va_S A s.heap H locs → lv_has ls 7 [(0, .ref h0), (1, .int a1), (2, .int a2), (5, .int y8_2), (6, .int y52_0)] → W p l e ({ frames := 1, cells := 0, slots := 0, locals := 13 } : Room) s m ([.ref h0, .int a1, .int a2] : List Value).toArray below meth c H locs 0 0 (MQ below ((oQi D (fun (r : Int32) (u : Unit) => (rg (-1) 9 r)) (fun (u : Unit) => [(h0, .inr (0, [.ref h0_frees, .ref h0_low, .ref h0_high, .ref h0_letGoWeight, .ref h0_holdWeight, .ref h0_heardWith])), (aI ca h0_heardWith 10 F_h0_heardWith)])) A) ([.ref h0, .int a1, .int a2] : List Value).toArray s 0 0 A) (F0 m 52 ls []) := by
        intro y52_0 t52_y8_2 H locs ls hP hD hS hl
        refine lv_iload hx hb dX0_inHalfHeard_52 (lv_at hl 3 rfl) ?_
        refine lv_istore_n (lv' := [(3, .int y8_2), (0, .ref h0), (1, .int a1), (2, .int a2), (5, .int y8_2), (6, .int y52_0)]) hx hb dX0_inHalfHeard_54 rfl hl (by decide) rfl (fun ls hl => ?_)
        refine lv_iload hx hb dX0_inHalfHeard_55 (lv_at hl 5 rfl) ?_
        refine lv_istore (lv' := [(4, .int y52_0), (3, .int y8_2), (0, .ref h0), (1, .int a1), (2, .int a2), (5, .int y8_2), (6, .int y52_0)]) hx hb dX0_inHalfHeard_57 hl (by decide) rfl (fun ls hl => ?_)
        exact J59_174 y8_2 y52_0 (rgw (lo := (-1)) (hi := 9) t52_y8_2 (by decide) (by decide)) t52_y8_2 H locs ls (oPsub hP [0, 1] rfl) (hD.sub [0, 1] (by decide) rfl) hS (lv_sub hl [2, 3, 4, 1, 0, 5] rfl)
      refine lv_iload hx hb dX0_inHalfHeard_8 (lv_at hl 5 rfl) ?_
      refine lv_bipush (v := 10) hx hb dX0_inHalfHeard_10 (by decide) ?_
      refine lv_icmp_ge (tgt := 65) hx hb dX0_inHalfHeard_12 (by decide) (fun c_179 => ?_) (fun c_179 => ?_)
      · skip
        have o_180 : rl 0 10 y8_2 := rl_le c_179
        have h_181 : rg 10 10 y8_2 := rl_y o_180 (⟨by decide, by decide⟩ : rg 10 10 (10 : Int32)) hy8_2 (by decide) (by decide)
        refine lv_iload_n hx hb dX0_inHalfHeard_65 rfl (lv_at hl 3 rfl) ?_
        exact oE_i hx hb hr rfl hlocks hP hD hS () [0, 1] rfl (by decide) hy8_0 (Nat.le_of_ble_eq_true rfl) (Nat.le_of_ble_eq_true rfl) dX0_inHalfHeard_66
      · skip
        have o_182 : rl 1 y8_2 10 := rl_nle c_179
        have h_183 : rg 0 9 y8_2 := rl_x o_182 hy8_2 (⟨by decide, by decide⟩ : rg 10 10 (10 : Int32)) (by decide) (by decide)
        refine lv_iconst (v := 2) hx hb dX0_inHalfHeard_15 (by decide) ?_
        refine lv_aload_n hx hb dX0_inHalfHeard_16 rfl (lv_at hl 0 rfl) ?_
        refine va_get (D := D) (ci := 0) (v := .ref h0_heardWith) (C := RX0) (T := TX0) (N := 6) hx hb hts k2 hown hK.1 hP 0 rfl rfl 5 (by decide) k1 (fun _ h9 => h9) rfl dX0_inHalfHeard_17 ?_
        refine lv_iload hx hb dX0_inHalfHeard_20 (lv_at hl 5 rfl) ?_
        refine va_iald hx hb hK.1 hP 1 0 rfl rfl (rg_in h_183 (by decide) (by decide)) dX0_inHalfHeard_22 ?_
        refine lv_topi (fun x_184 ex_184 => ?_)
        refine lv_imul hx hb dX0_inHalfHeard_23 ?_
        refine lv_topi (fun x_185 ex_185 => ?_)
        refine lv_iload_n hx hb dX0_inHalfHeard_24 rfl (lv_at hl 2 rfl) ?_
        refine lv_isub hx hb dX0_inHalfHeard_25 ?_
        refine lv_topi (fun x_186 ex_186 => ?_)
        refine va_mabs hx hb (by rw [hml]; exact hl.1.symm) hown k3 k4 k5 k6 (Nat.le_of_ble_eq_true rfl) (Nat.le_of_ble_eq_true rfl) (Nat.le_of_ble_eq_true rfl) (Nat.le_of_ble_eq_true rfl) dX0_inHalfHeard_26 ?_
        refine lv_topi (fun x_187 ex_187 => ?_)
        refine lv_istore (lv' := [(6, .int x_187), (0, .ref h0), (1, .int a1), (2, .int a2), (3, .int y8_0), (4, .int y8_1), (5, .int y8_2)]) hx hb dX0_inHalfHeard_29 hl (by decide) rfl (fun ls hl => ?_)
        refine lv_iload_n hx hb dX0_inHalfHeard_31 rfl (lv_at hl 2 rfl) ?_
        refine lv_iload hx hb dX0_inHalfHeard_32 (lv_at hl 6 rfl) ?_
        refine lv_ishr hx hb dX0_inHalfHeard_34 ?_
        refine lv_topi (fun x_188 ex_188 => ?_)
        refine lv_iconst (v := 1) hx hb dX0_inHalfHeard_35 (by decide) ?_
        refine lv_iand hx hb dX0_inHalfHeard_36 ?_
        refine lv_topi (fun x_189 ex_189 => ?_)
        have h_190 : rg 0 1 x_189 := by rw [ex_189]; exact rg_and' (⟨by decide, by decide⟩ : rg 1 1 (1 : Int32)) (by decide) (by decide) (by decide)
        refine lv_if_eq (tgt := 59) hx hb dX0_inHalfHeard_37 (by decide) (fun c_191 => ?_) (fun c_191 => ?_)
        · skip
          have o_192 : rl 0 x_189 0 := rl_eq c_191
          have h_193 : rg 0 0 x_189 := rl_x o_192 h_190 (⟨by decide, by decide⟩ : rg 0 0 (0 : Int32)) (by decide) (by decide)
          have o_194 : rl 0 0 x_189 := rl_eq c_191.symm
          exact J59_174 y8_0 y8_1 hy8_0 h_183 H locs ls (oPsub hP [0, 1] rfl) (hD.sub [0, 1] (by decide) rfl) hS (lv_sub hl [1, 2, 3, 4, 5, 6] rfl)
        · skip
          have h_195 : rg 1 1 x_189 := cl_nlo c_191 h_190 (show (0 : Int32).toInt = 0 by decide) (by decide) (by decide)
          refine lv_iload_n hx hb dX0_inHalfHeard_40 rfl (lv_at hl 4 rfl) ?_
          refine lv_iconst (v := (-1)) hx hb dX0_inHalfHeard_41 (by decide) ?_
          refine lv_icmp_eq (tgt := 52) hx hb dX0_inHalfHeard_42 (by decide) (fun c_196 => ?_) (fun c_196 => ?_)
          · skip
            have o_197 : rl 0 y8_0 (-1) := rl_eq c_196
            have h_198 : rg (-1) (-1) y8_0 := rl_x o_197 hy8_0 (⟨by decide, by decide⟩ : rg (-1) (-1) ((-1) : Int32)) (by decide) (by decide)
            have o_199 : rl 0 (-1) y8_0 := rl_eq c_196.symm
            exact J52_178 x_187 h_183 H locs ls (oPsub hP [0, 1] rfl) (hD.sub [0, 1] (by decide) rfl) hS (lv_sub hl [1, 2, 3, 6, 0] rfl)
          · skip
            have h_200 : rg 0 9 y8_0 := cl_nlo c_196 hy8_0 (show ((-1) : Int32).toInt = (-1) by decide) (by decide) (by decide)
            refine lv_iload hx hb dX0_inHalfHeard_45 (lv_at hl 0 rfl) ?_
            refine lv_iload hx hb dX0_inHalfHeard_47 (lv_at hl 5 rfl) ?_
            refine lv_icmp_ge (tgt := 59) hx hb dX0_inHalfHeard_49 (by decide) (fun c_201 => ?_) (fun c_201 => ?_)
            · skip
              have o_202 : rl 0 y8_1 x_187 := rl_le c_201
              exact J59_174 y8_0 y8_1 (rgw (lo := (-1)) (hi := 9) h_200 (by decide) (by decide)) h_183 H locs ls (oPsub hP [0, 1] rfl) (hD.sub [0, 1] (by decide) rfl) hS (lv_sub hl [1, 2, 3, 4, 5, 6] rfl)
            · skip
              have o_203 : rl 1 x_187 y8_1 := rl_nle c_201
              have h_204 : rg (-2147483648) 2147483646 x_187 := rl_x o_203 (rga x_187) (rga y8_1) (by decide) (by decide)
              have h_205 : rg (-2147483647) 2147483647 y8_1 := rl_y o_203 (rga x_187) (rga y8_1) (by decide) (by decide)
              exact J52_178 x_187 h_183 H locs ls (oPsub hP [0, 1] rfl) (hD.sub [0, 1] (by decide) rfl) hS (lv_sub hl [1, 2, 3, 6, 0] rfl)
  refine lv_iconst (v := (-1)) hx hb dX0_inHalfHeard_0 (by decide) ?_
  refine lv_istore_n (lv' := [(3, .int (-1)), (0, .ref h0), (1, .int a1), (2, .int a2)]) hx hb dX0_inHalfHeard_1 rfl hl (by decide) rfl (fun ls hl => ?_)
  refine lv_iconst (v := 0) hx hb dX0_inHalfHeard_2 (by decide) ?_
  refine lv_istore (lv' := [(4, .int 0), (3, .int (-1)), (0, .ref h0), (1, .int a1), (2, .int a2)]) hx hb dX0_inHalfHeard_3 hl (by decide) rfl (fun ls hl => ?_)
  refine lv_iconst (v := 0) hx hb dX0_inHalfHeard_5 (by decide) ?_
  refine lv_istore (lv' := [(5, .int 0), (4, .int 0), (3, .int (-1)), (0, .ref h0), (1, .int a1), (2, .int a2)]) hx hb dX0_inHalfHeard_6 hl (by decide) rfl (fun ls hl => ?_)
  exact J8_143 11 (-1) 0 0 trivial (⟨by decide, by decide⟩ : rg (-1) 9 ((-1) : Int32)) (⟨by decide, by decide⟩ : rg 0 10 (0 : Int32)) (by have q0 := (⟨by decide, by decide⟩ : rg 0 0 (0 : Int32)).1; omega) H locs ls (oPsub hP [0, 1] rfl) (hD.sub [0, 1] (by decide) rfl) hS (lv_sub hl [3, 4, 5, 2, 1, 0] rfl)
theorem dX11_heard_0 : decode cX11_heard 0 = .ok (.aload_n 0, 1) := by decide +kernel
theorem dX11_heard_1 : decode cX11_heard 1 = .ok (.getfield 10, 3) := by decide +kernel
theorem dX11_heard_4 : decode cX11_heard 4 = .ok (.getfield 102, 3) := by decide +kernel
theorem dX11_heard_7 : decode cX11_heard 7 = .ok (.iconst 3, 1) := by decide +kernel
theorem dX11_heard_8 : decode cX11_heard 8 = .ok (.if_icmp .ne 23, 3) := by decide +kernel
theorem dX11_heard_11 : decode cX11_heard 11 = .ok (.aload_n 0, 1) := by decide +kernel
theorem dX11_heard_12 : decode cX11_heard 12 = .ok (.aload_n 0, 1) := by decide +kernel
theorem dX11_heard_13 : decode cX11_heard 13 = .ok (.getfield 10, 3) := by decide +kernel
theorem dX11_heard_16 : decode cX11_heard 16 = .ok (.getfield 275, 3) := by decide +kernel
theorem dX11_heard_19 : decode cX11_heard 19 = .ok (.iconst 0, 1) := by decide +kernel
theorem dX11_heard_20 : decode cX11_heard 20 = .ok (.iaload, 1) := by decide +kernel
theorem dX11_heard_21 : decode cX11_heard 21 = .ok (.invokevirtual 182, 3) := by decide +kernel
theorem dX11_heard_24 : decode cX11_heard 24 = .ok (.ifCond .eq 7, 3) := by decide +kernel
theorem dX11_heard_27 : decode cX11_heard 27 = .ok (.iconst 1, 1) := by decide +kernel
theorem dX11_heard_28 : decode cX11_heard 28 = .ok (.goto 4, 3) := by decide +kernel
theorem dX11_heard_31 : decode cX11_heard 31 = .ok (.iconst 0, 1) := by decide +kernel
theorem dX11_heard_32 : decode cX11_heard 32 = .ok (.istore_n 1, 1) := by decide +kernel
theorem dX11_heard_33 : decode cX11_heard 33 = .ok (.aload_n 0, 1) := by decide +kernel
theorem dX11_heard_34 : decode cX11_heard 34 = .ok (.getfield 10, 3) := by decide +kernel
theorem dX11_heard_37 : decode cX11_heard 37 = .ok (.iconst 0, 1) := by decide +kernel
theorem dX11_heard_38 : decode cX11_heard 38 = .ok (.putfield 102, 3) := by decide +kernel
theorem dX11_heard_41 : decode cX11_heard 41 = .ok (.iload_n 1, 1) := by decide +kernel
theorem dX11_heard_42 : decode cX11_heard 42 = .ok (.ifCond .ne 5, 3) := by decide +kernel
theorem dX11_heard_45 : decode cX11_heard 45 = .ok (.iconst (-1), 1) := by decide +kernel
theorem dX11_heard_46 : decode cX11_heard 46 = .ok (.ireturn, 1) := by decide +kernel
theorem dX11_heard_47 : decode cX11_heard 47 = .ok (.aload_n 0, 1) := by decide +kernel
theorem dX11_heard_48 : decode cX11_heard 48 = .ok (.getfield 63, 3) := by decide +kernel
theorem dX11_heard_51 : decode cX11_heard 51 = .ok (.aload_n 0, 1) := by decide +kernel
theorem dX11_heard_52 : decode cX11_heard 52 = .ok (.getfield 19, 3) := by decide +kernel
theorem dX11_heard_55 : decode cX11_heard 55 = .ok (.aload_n 0, 1) := by decide +kernel
theorem dX11_heard_56 : decode cX11_heard 56 = .ok (.getfield 26, 3) := by decide +kernel
theorem dX11_heard_59 : decode cX11_heard 59 = .ok (.aload_n 0, 1) := by decide +kernel
theorem dX11_heard_60 : decode cX11_heard 60 = .ok (.getfield 10, 3) := by decide +kernel
theorem dX11_heard_63 : decode cX11_heard 63 = .ok (.getfield 275, 3) := by decide +kernel
theorem dX11_heard_66 : decode cX11_heard 66 = .ok (.iconst 0, 1) := by decide +kernel
theorem dX11_heard_67 : decode cX11_heard 67 = .ok (.iaload, 1) := by decide +kernel
theorem dX11_heard_68 : decode cX11_heard 68 = .ok (.invokevirtual 246, 3) := by decide +kernel
theorem dX11_heard_71 : decode cX11_heard 71 = .ok (.aload_n 0, 1) := by decide +kernel
theorem dX11_heard_72 : decode cX11_heard 72 = .ok (.getfield 63, 3) := by decide +kernel
theorem dX11_heard_75 : decode cX11_heard 75 = .ok (.aload_n 0, 1) := by decide +kernel
theorem dX11_heard_76 : decode cX11_heard 76 = .ok (.getfield 26, 3) := by decide +kernel
theorem dX11_heard_79 : decode cX11_heard 79 = .ok (.getfield 152, 3) := by decide +kernel
theorem dX11_heard_82 : decode cX11_heard 82 = .ok (.aload_n 0, 1) := by decide +kernel
theorem dX11_heard_83 : decode cX11_heard 83 = .ok (.getfield 10, 3) := by decide +kernel
theorem dX11_heard_86 : decode cX11_heard 86 = .ok (.getfield 275, 3) := by decide +kernel
theorem dX11_heard_89 : decode cX11_heard 89 = .ok (.iconst 1, 1) := by decide +kernel
theorem dX11_heard_90 : decode cX11_heard 90 = .ok (.iaload, 1) := by decide +kernel
theorem dX11_heard_91 : decode cX11_heard 91 = .ok (.aload_n 0, 1) := by decide +kernel
theorem dX11_heard_92 : decode cX11_heard 92 = .ok (.getfield 10, 3) := by decide +kernel
theorem dX11_heard_95 : decode cX11_heard 95 = .ok (.getfield 275, 3) := by decide +kernel
theorem dX11_heard_98 : decode cX11_heard 98 = .ok (.iconst 2, 1) := by decide +kernel
theorem dX11_heard_99 : decode cX11_heard 99 = .ok (.iaload, 1) := by decide +kernel
theorem dX11_heard_100 : decode cX11_heard 100 = .ok (.invokevirtual 278, 3) := by decide +kernel
theorem dX11_heard_103 : decode cX11_heard 103 = .ok (.istore_n 2, 1) := by decide +kernel
theorem dX11_heard_104 : decode cX11_heard 104 = .ok (.iload_n 2, 1) := by decide +kernel
theorem dX11_heard_105 : decode cX11_heard 105 = .ok (.ifCond .le 38, 3) := by decide +kernel
theorem dX11_heard_108 : decode cX11_heard 108 = .ok (.aload_n 0, 1) := by decide +kernel
theorem dX11_heard_109 : decode cX11_heard 109 = .ok (.getfield 83, 3) := by decide +kernel
theorem dX11_heard_112 : decode cX11_heard 112 = .ok (.iconst 3, 1) := by decide +kernel
theorem dX11_heard_113 : decode cX11_heard 113 = .ok (.aload_n 0, 1) := by decide +kernel
theorem dX11_heard_114 : decode cX11_heard 114 = .ok (.getfield 63, 3) := by decide +kernel
theorem dX11_heard_117 : decode cX11_heard 117 = .ok (.iload_n 2, 1) := by decide +kernel
theorem dX11_heard_118 : decode cX11_heard 118 = .ok (.invokevirtual 282, 3) := by decide +kernel
theorem dX11_heard_121 : decode cX11_heard 121 = .ok (.iastore, 1) := by decide +kernel
theorem dX11_heard_122 : decode cX11_heard 122 = .ok (.aload_n 0, 1) := by decide +kernel
theorem dX11_heard_123 : decode cX11_heard 123 = .ok (.getfield 83, 3) := by decide +kernel
theorem dX11_heard_126 : decode cX11_heard 126 = .ok (.iconst 4, 1) := by decide +kernel
theorem dX11_heard_127 : decode cX11_heard 127 = .ok (.aload_n 0, 1) := by decide +kernel
theorem dX11_heard_128 : decode cX11_heard 128 = .ok (.getfield 63, 3) := by decide +kernel
theorem dX11_heard_131 : decode cX11_heard 131 = .ok (.aload_n 0, 1) := by decide +kernel
theorem dX11_heard_132 : decode cX11_heard 132 = .ok (.getfield 26, 3) := by decide +kernel
theorem dX11_heard_135 : decode cX11_heard 135 = .ok (.getfield 152, 3) := by decide +kernel
theorem dX11_heard_138 : decode cX11_heard 138 = .ok (.iload_n 2, 1) := by decide +kernel
theorem dX11_heard_139 : decode cX11_heard 139 = .ok (.invokevirtual 285, 3) := by decide +kernel
theorem dX11_heard_142 : decode cX11_heard 142 = .ok (.iastore, 1) := by decide +kernel
theorem dX11_heard_143 : decode cX11_heard 143 = .ok (.iload_n 2, 1) := by decide +kernel
theorem dX11_heard_144 : decode cX11_heard 144 = .ok (.ireturn, 1) := by decide +kernel
set_option maxRecDepth 20000 in
theorem ggX11_heard_X11_isFloor : GoodIn wsX11_heard wsX11_isFloor := goodIn_r _ [13, 5, 14, 67, 68, 69, 70, 71, 72, 73, 74, 75, 76, 77, 78, 79, 80, 81, 103, 104, 105, 106, 107, 108, 109, 110, 111, 112, 113, 114, 115, 116, 117, 118] rfl (by decide +kernel)
set_option maxRecDepth 20000 in
theorem gX11_heard_X11_isFloor : GoodIn wsX11_heard (wsV RX11 182 RX11 yX11_isFloor wsX11_isFloor) := goodIn_app (goodIn_of _ (by decide +kernel)) ggX11_heard_X11_isFloor
set_option maxRecDepth 20000 in
theorem ggX11_heard_X0_measure : GoodIn wsX11_heard wsX0_measure := goodIn_r _ [19, 20, 21, 22, 23, 24, 25, 26, 27, 28, 29, 30, 31, 32, 33, 34, 35, 36, 37, 38, 39, 40, 41, 42, 43, 44, 45, 46, 47, 48, 49, 50, 103, 104, 105, 106, 107, 108, 109, 110, 111, 112, 113, 114, 115, 116, 117, 118, 119, 120, 121, 122, 123, 124, 92, 93, 94, 95, 96, 97, 98, 99, 100, 101, 102] rfl (by decide +kernel)
set_option maxRecDepth 20000 in
theorem gX11_heard_X0_measure : GoodIn wsX11_heard (wsV RX11 246 RX0 yX0_measure wsX0_measure) := goodIn_app (goodIn_of _ (by decide +kernel)) ggX11_heard_X0_measure
set_option maxRecDepth 20000 in
theorem ggX11_heard_X0_hear : GoodIn wsX11_heard wsX0_hear := goodIn_r _ [54, 55, 21, 22, 119, 120, 121, 122, 123, 124] rfl (by decide +kernel)
set_option maxRecDepth 20000 in
theorem gX11_heard_X0_hear : GoodIn wsX11_heard (wsV RX11 278 RX0 yX0_hear wsX0_hear) := goodIn_app (goodIn_of _ (by decide +kernel)) ggX11_heard_X0_hear
set_option maxRecDepth 20000 in
theorem ggX11_heard_X0_inAllHeard : GoodIn wsX11_heard wsX0_inAllHeard := goodIn_r _ [59, 55, 119, 120, 121, 122, 123, 124] rfl (by decide +kernel)
set_option maxRecDepth 20000 in
theorem gX11_heard_X0_inAllHeard : GoodIn wsX11_heard (wsV RX11 282 RX0 yX0_inAllHeard wsX0_inAllHeard) := goodIn_app (goodIn_of _ (by decide +kernel)) ggX11_heard_X0_inAllHeard
set_option maxRecDepth 20000 in
theorem ggX11_heard_X0_inHalfHeard : GoodIn wsX11_heard wsX0_inHalfHeard := goodIn_r _ [63, 55, 64, 65, 25, 66, 119, 120, 121, 122, 123, 124] rfl (by decide +kernel)
set_option maxRecDepth 20000 in
theorem gX11_heard_X0_inHalfHeard : GoodIn wsX11_heard (wsV RX11 285 RX0 yX0_inHalfHeard wsX0_inHalfHeard) := goodIn_app (goodIn_of _ (by decide +kernel)) ggX11_heard_X0_inHalfHeard
set_option maxHeartbeats 4000000 in
set_option maxRecDepth 100000 in
theorem s_X11_heard (l : Launch) (D : va_G) (ca : Nat → ClassId) (sz : Nat) (h0 : Nat) (h0_tape : Nat) (h0_law : Nat) (h0_standing : Nat) (h0_saying : Nat) (h0_courtReader : Nat) (h0_bookReader : Nat) (h0_sentenceReader : Nat) (h0_bench : Nat) (h0_whatIf : Nat) (h0_history : Nat) (h0_images : Nat) (h0_latest : Nat) (h0_latestBook : Nat) (h0_latestRoll : Nat) (h0_rollLength : Int32) (h0_tape_bytes : Nat) (h0_tape_length : Int32) (h0_tape_faultKind : Int32) (h0_tape_faultAt : Int32) (h0_tape_letters : Int64) (h0_tape_mostBytes : Int32) (h0_tape_behind : Int32) (h0_tape_at : Int32) (h0_tape_kind : Int32) (h0_tape_number : Int32) (F_h0_tape_bytes : Nat → Int32) (h0_law_jurors : Int32) (h0_law_floors : Int32) (h0_law_cases : Int32) (h0_law_one : Int32) (h0_law_dent : Int32) (h0_law_seated : Int32) (h0_law_jurorName : Nat) (h0_law_floorName : Nat) (h0_law_caseName : Nat) (h0_law_pitch : Nat) (h0_law_length : Nat) (h0_law_hands : Nat) (h0_law_tune : Nat) (h0_law_dull : Nat) (h0_law_caseFloor : Nat) (h0_law_tuned : Nat) (h0_bench_frees : Nat) (h0_bench_low : Nat) (h0_bench_high : Nat) (h0_bench_letGoWeight : Nat) (h0_bench_holdWeight : Nat) (h0_bench_heardWith : Nat) (h0_standing_day : Int32) (h0_standing_sits : Int32) (h0_standing_holds : Int32) (h0_standing_trials : Int32) (h0_standing_triedToday : Int32) (h0_standing_dents : Nat) (h0_standing_drops : Nat) (h0_standing_how : Nat) (h0_standing_triedOn : Nat) (h0_standing_dropped : Nat) (h0_standing_heldOn : Nat) (F_h0_law_tuned : Nat → Int32) (F_h0_law_pitch : Nat → Int32) (F_h0_law_tune : Nat → Int32) (F_h0_standing_dents : Nat → Int32) (F_h0_bench_low : Nat → Int32) (F_h0_bench_high : Nat → Int32) (F_h0_bench_heardWith : Nat → Int32) (F_h0_latest : Nat → Int32) (i_h0_rollLength : rg 0 40 h0_rollLength) (i_h0_tape_length : rg 0 940 h0_tape_length) (i_h0_tape_faultKind : rg 0 4 h0_tape_faultKind) (i_h0_tape_behind : rg 0 940 h0_tape_behind) (i_h0_law_jurors : rg 0 10 h0_law_jurors) (i_h0_law_floors : rg 0 4 h0_law_floors) (i_h0_law_cases : rg 0 5 h0_law_cases) (i_h0_law_seated : rg 0 1023 h0_law_seated) (i_h0_standing_sits : rg 0 1023 h0_standing_sits) (i_h0_standing_triedToday : rg 0 1 h0_standing_triedToday) (s_h0_tape_bytes_0 : sg 0 940 0 255 F_h0_tape_bytes) : oMet l yX11_heard wsX11_heard ({ frames := 3, cells := 0, slots := 0, locals := 72 } : Room) [.ref h0] D ca sz [(h0, .inr (10, [.ref h0_tape, .ref h0_law, .ref h0_standing, .ref h0_saying, .ref h0_courtReader, .ref h0_bookReader, .ref h0_sentenceReader, .ref h0_bench, .ref h0_whatIf, .ref h0_history, .ref h0_images, .ref h0_latest, .ref h0_latestBook, .ref h0_latestRoll, .int h0_rollLength])), (h0_tape, .inr (6, [.ref h0_tape_bytes, .int h0_tape_length, .int h0_tape_faultKind, .int h0_tape_faultAt, .long h0_tape_letters, .int h0_tape_mostBytes, .int h0_tape_behind, .int h0_tape_at, .int h0_tape_kind, .int h0_tape_number])), (aI ca h0_tape_bytes 940 F_h0_tape_bytes), (h0_law, .inr (5, [.int h0_law_jurors, .int h0_law_floors, .int h0_law_cases, .int h0_law_one, .int h0_law_dent, .int h0_law_seated, .ref h0_law_jurorName, .ref h0_law_floorName, .ref h0_law_caseName, .ref h0_law_pitch, .ref h0_law_length, .ref h0_law_hands, .ref h0_law_tune, .ref h0_law_dull, .ref h0_law_caseFloor, .ref h0_law_tuned])), (h0_bench, .inr (0, [.ref h0_bench_frees, .ref h0_bench_low, .ref h0_bench_high, .ref h0_bench_letGoWeight, .ref h0_bench_holdWeight, .ref h0_bench_heardWith])), (h0_standing, .inr (9, [.int h0_standing_day, .int h0_standing_sits, .int h0_standing_holds, .int h0_standing_trials, .int h0_standing_triedToday, .ref h0_standing_dents, .ref h0_standing_drops, .ref h0_standing_how, .ref h0_standing_triedOn, .ref h0_standing_dropped, .ref h0_standing_heldOn])), (aI ca h0_law_tuned 40 F_h0_law_tuned), (aI ca h0_law_pitch 10 F_h0_law_pitch), (aI ca h0_law_tune 4 F_h0_law_tune), (aI ca h0_standing_dents 10 F_h0_standing_dents), (aI ca h0_bench_low 1024 F_h0_bench_low), (aI ca h0_bench_high 1024 F_h0_bench_high), (aI ca h0_bench_heardWith 10 F_h0_bench_heardWith), (aI ca h0_latest 7 F_h0_latest)] (oQi D (fun (r : Int32) (u : (Nat → Int32) × (Nat → Int32) × (Nat → Int32) × (Nat → Int32)) => (eqs 0 3 u.2.2.2 F_h0_latest) ∧ (eqs 5 7 u.2.2.2 F_h0_latest)) (fun (u : (Nat → Int32) × (Nat → Int32) × (Nat → Int32) × (Nat → Int32)) => [(h0, .inr (10, [.ref h0_tape, .ref h0_law, .ref h0_standing, .ref h0_saying, .ref h0_courtReader, .ref h0_bookReader, .ref h0_sentenceReader, .ref h0_bench, .ref h0_whatIf, .ref h0_history, .ref h0_images, .ref h0_latest, .ref h0_latestBook, .ref h0_latestRoll, .int h0_rollLength])), (h0_tape, .inr (6, [.ref h0_tape_bytes, .int 0, .int h0_tape_faultKind, .int h0_tape_faultAt, .long h0_tape_letters, .int h0_tape_mostBytes, .int h0_tape_behind, .int h0_tape_at, .int h0_tape_kind, .int h0_tape_number])), (aI ca h0_tape_bytes 940 F_h0_tape_bytes), (h0_law, .inr (5, [.int h0_law_jurors, .int h0_law_floors, .int h0_law_cases, .int h0_law_one, .int h0_law_dent, .int h0_law_seated, .ref h0_law_jurorName, .ref h0_law_floorName, .ref h0_law_caseName, .ref h0_law_pitch, .ref h0_law_length, .ref h0_law_hands, .ref h0_law_tune, .ref h0_law_dull, .ref h0_law_caseFloor, .ref h0_law_tuned])), (h0_bench, .inr (0, [.ref h0_bench_frees, .ref h0_bench_low, .ref h0_bench_high, .ref h0_bench_letGoWeight, .ref h0_bench_holdWeight, .ref h0_bench_heardWith])), (h0_standing, .inr (9, [.int h0_standing_day, .int h0_standing_sits, .int h0_standing_holds, .int h0_standing_trials, .int h0_standing_triedToday, .ref h0_standing_dents, .ref h0_standing_drops, .ref h0_standing_how, .ref h0_standing_triedOn, .ref h0_standing_dropped, .ref h0_standing_heldOn])), (aI ca h0_law_tuned 40 F_h0_law_tuned), (aI ca h0_law_pitch 10 F_h0_law_pitch), (aI ca h0_law_tune 4 F_h0_law_tune), (aI ca h0_standing_dents 10 F_h0_standing_dents), (aI ca h0_bench_low 1024 u.1), (aI ca h0_bench_high 1024 u.2.1), (aI ca h0_bench_heardWith 10 u.2.2.1), (aI ca h0_latest 7 u.2.2.2)])) 0 0 := by
  refine oM (cc := cX11_heard) (maxL := 3) (ret := (some .int)) (by decide) rfl (Nat.le_of_ble_eq_true rfl) [(0, .ref h0)] rfl ?_
  intro p e s m below meth c A H locs ls hx hb hr hml hts hown hlocks hin hK hP hD hA hS hl
  have hown : s.vm.findClass RX11 = some m.cls := hown
  have k1 := hts (.fieldLink RX11 10 "LidCourt" "tape" "LLidCourt$Reader;") (by decide +kernel)
  have k2 : ∀ w ∈ wsX110, w ∈ wsX11_heard := fun _ h => List.mem_cons_of_mem _ (List.mem_append_left _ (List.mem_append_left _ (List.mem_append_left _ (List.mem_append_left _ (List.mem_append_right _ h)))))
  have k3 := hts (.fieldLink RX11 102 "LidCourt$Reader" "length" "I") (by decide +kernel)
  have k4 : ∀ w ∈ wsX60, w ∈ wsX11_heard := fun _ h => List.mem_cons_of_mem _ (List.mem_append_left _ (List.mem_append_left _ (List.mem_append_left _ (List.mem_append_right _ h))))
  have k5 := hts (.fieldLink RX11 275 "LidCourt$Reader" "bytes" "[I") (by decide +kernel)
  have k6 := hts (.fieldLink RX11 63 "LidCourt" "bench" "LLidCourt$Bench;") (by decide +kernel)
  have k7 := hts (.fieldLink RX11 19 "LidCourt" "law" "LLidCourt$Law;") (by decide +kernel)
  have k8 := hts (.fieldLink RX11 26 "LidCourt" "standing" "LLidCourt$Standing;") (by decide +kernel)
  have k9 := hts (.fieldLink RX11 152 "LidCourt$Standing" "sits" "I") (by decide +kernel)
  have k10 : ∀ w ∈ wsX90, w ∈ wsX11_heard := fun _ h => List.mem_cons_of_mem _ (List.mem_append_left _ (List.mem_append_left _ (List.mem_append_right _ h)))
  have k11 := hts (.fieldLink RX11 83 "LidCourt" "latest" "[I") (by decide +kernel)
  refine lv_aload_n hx hb dX11_heard_0 rfl (lv_at hl 0 rfl) ?_
  refine va_get (D := D) (ci := 10) (v := .ref h0_tape) (C := RX11) (T := TX11) (N := 15) hx hb hts k2 hown hK.1 hP 0 rfl rfl 0 (by decide) k1 (fun _ h9 => h9) rfl dX11_heard_1 ?_
  refine va_get (D := D) (ci := 6) (v := .int h0_tape_length) (C := RX6) (T := TX6) (N := 10) hx hb hts k4 hown hK.1 hP 1 rfl rfl 1 (by decide) k3 (fun _ h9 => h9) rfl dX11_heard_4 ?_
  refine lv_iconst (v := 3) hx hb dX11_heard_7 (by decide) ?_
  refine lv_icmp_ne (tgt := 31) hx hb dX11_heard_8 (by decide) (fun c_50 => ?_) (fun c_50 => ?_)
  · skip
    refine lv_iconst (v := 0) hx hb dX11_heard_31 (by decide) ?_
    refine lv_istore_n (lv' := [(1, .int 0), (0, .ref h0)]) hx hb dX11_heard_32 rfl hl (by decide) rfl (fun ls hl => ?_)
    refine lv_aload_n hx hb dX11_heard_33 rfl (lv_at hl 1 rfl) ?_
    refine va_get (D := D) (ci := 10) (v := .ref h0_tape) (C := RX11) (T := TX11) (N := 15) hx hb hts k2 hown hK.1 hP 0 rfl rfl 0 (by decide) k1 (fun _ h9 => h9) rfl dX11_heard_34 ?_
    refine lv_iconst (v := 0) hx hb dX11_heard_37 (by decide) ?_
    refine va_put (D := D) (ci := 6) (v := .int 0) (ty := .int) (C := RX6) (T := TX6) (N := 10) hx hb hts k4 tyX6 tyX6_ok nmX6 hown hK.1 hP hD hS 1 rfl rfl 1 (by decide) k3 (fun _ h9 => h9) rfl (by decide +kernel) rfl rfl (Nat.le_of_ble_eq_true rfl) dX11_heard_38 (fun H locs hP hD hS => ?_)
    have hP : va_P D vwCl [(h0, .inr (10, [.ref h0_tape, .ref h0_law, .ref h0_standing, .ref h0_saying, .ref h0_courtReader, .ref h0_bookReader, .ref h0_sentenceReader, .ref h0_bench, .ref h0_whatIf, .ref h0_history, .ref h0_images, .ref h0_latest, .ref h0_latestBook, .ref h0_latestRoll, .int h0_rollLength])), (h0_tape, .inr (6, [.ref h0_tape_bytes, .int 0, .int h0_tape_faultKind, .int h0_tape_faultAt, .long h0_tape_letters, .int h0_tape_mostBytes, .int h0_tape_behind, .int h0_tape_at, .int h0_tape_kind, .int h0_tape_number])), (aI ca h0_tape_bytes 940 F_h0_tape_bytes), (h0_law, .inr (5, [.int h0_law_jurors, .int h0_law_floors, .int h0_law_cases, .int h0_law_one, .int h0_law_dent, .int h0_law_seated, .ref h0_law_jurorName, .ref h0_law_floorName, .ref h0_law_caseName, .ref h0_law_pitch, .ref h0_law_length, .ref h0_law_hands, .ref h0_law_tune, .ref h0_law_dull, .ref h0_law_caseFloor, .ref h0_law_tuned])), (h0_bench, .inr (0, [.ref h0_bench_frees, .ref h0_bench_low, .ref h0_bench_high, .ref h0_bench_letGoWeight, .ref h0_bench_holdWeight, .ref h0_bench_heardWith])), (h0_standing, .inr (9, [.int h0_standing_day, .int h0_standing_sits, .int h0_standing_holds, .int h0_standing_trials, .int h0_standing_triedToday, .ref h0_standing_dents, .ref h0_standing_drops, .ref h0_standing_how, .ref h0_standing_triedOn, .ref h0_standing_dropped, .ref h0_standing_heldOn])), (aI ca h0_law_tuned 40 F_h0_law_tuned), (aI ca h0_law_pitch 10 F_h0_law_pitch), (aI ca h0_law_tune 4 F_h0_law_tune), (aI ca h0_standing_dents 10 F_h0_standing_dents), (aI ca h0_bench_low 1024 F_h0_bench_low), (aI ca h0_bench_high 1024 F_h0_bench_high), (aI ca h0_bench_heardWith 10 F_h0_bench_heardWith), (aI ca h0_latest 7 F_h0_latest)] H := hP
    have hD : va_D A [(h0, .inr (10, [.ref h0_tape, .ref h0_law, .ref h0_standing, .ref h0_saying, .ref h0_courtReader, .ref h0_bookReader, .ref h0_sentenceReader, .ref h0_bench, .ref h0_whatIf, .ref h0_history, .ref h0_images, .ref h0_latest, .ref h0_latestBook, .ref h0_latestRoll, .int h0_rollLength])), (h0_tape, .inr (6, [.ref h0_tape_bytes, .int 0, .int h0_tape_faultKind, .int h0_tape_faultAt, .long h0_tape_letters, .int h0_tape_mostBytes, .int h0_tape_behind, .int h0_tape_at, .int h0_tape_kind, .int h0_tape_number])), (aI ca h0_tape_bytes 940 F_h0_tape_bytes), (h0_law, .inr (5, [.int h0_law_jurors, .int h0_law_floors, .int h0_law_cases, .int h0_law_one, .int h0_law_dent, .int h0_law_seated, .ref h0_law_jurorName, .ref h0_law_floorName, .ref h0_law_caseName, .ref h0_law_pitch, .ref h0_law_length, .ref h0_law_hands, .ref h0_law_tune, .ref h0_law_dull, .ref h0_law_caseFloor, .ref h0_law_tuned])), (h0_bench, .inr (0, [.ref h0_bench_frees, .ref h0_bench_low, .ref h0_bench_high, .ref h0_bench_letGoWeight, .ref h0_bench_holdWeight, .ref h0_bench_heardWith])), (h0_standing, .inr (9, [.int h0_standing_day, .int h0_standing_sits, .int h0_standing_holds, .int h0_standing_trials, .int h0_standing_triedToday, .ref h0_standing_dents, .ref h0_standing_drops, .ref h0_standing_how, .ref h0_standing_triedOn, .ref h0_standing_dropped, .ref h0_standing_heldOn])), (aI ca h0_law_tuned 40 F_h0_law_tuned), (aI ca h0_law_pitch 10 F_h0_law_pitch), (aI ca h0_law_tune 4 F_h0_law_tune), (aI ca h0_standing_dents 10 F_h0_standing_dents), (aI ca h0_bench_low 1024 F_h0_bench_low), (aI ca h0_bench_high 1024 F_h0_bench_high), (aI ca h0_bench_heardWith 10 F_h0_bench_heardWith), (aI ca h0_latest 7 F_h0_latest)] := hD
    refine lv_iload_n hx hb dX11_heard_41 rfl (lv_at hl 0 rfl) ?_
    refine lv_if_ne (tgt := 47) hx hb dX11_heard_42 (by decide) (fun c => absurd (by decide) c) (fun _ => ?_)
    refine lv_iconst (v := (-1)) hx hb dX11_heard_45 (by decide) ?_
    exact oE_i hx hb hr rfl hlocks hP hD hS (F_h0_bench_low, F_h0_bench_high, F_h0_bench_heardWith, F_h0_latest) [0, 1, 2, 3, 4, 5, 6, 7, 8, 9, 10, 11, 12, 13] rfl (by decide) ⟨(eqs_w (a' := 0) (b' := 3) (eqs_rf (a := 0) (b := 7) F_h0_latest) (by decide) (by decide)), (eqs_w (a' := 5) (b' := 7) (eqs_rf (a := 0) (b := 7) F_h0_latest) (by decide) (by decide))⟩ (Nat.le_of_ble_eq_true rfl) (Nat.le_of_ble_eq_true rfl) dX11_heard_46
  · skip
    have o_51 : rl 0 h0_tape_length 3 := rl_eq c_50
    have h_52 : rg 0 3 h0_tape_length := rl_x o_51 i_h0_tape_length (⟨by decide, by decide⟩ : rg 3 3 (3 : Int32)) (by decide) (by decide)
    have o_53 : rl 0 3 h0_tape_length := rl_eq c_50.symm
    have h_54 : rg 3 3 h0_tape_length := rl_y o_53 (⟨by decide, by decide⟩ : rg 3 3 (3 : Int32)) h_52 (by decide) (by decide)
    refine lv_aload_n hx hb dX11_heard_11 rfl (lv_at hl 0 rfl) ?_
    refine lv_aload_n hx hb dX11_heard_12 rfl (lv_at hl 0 rfl) ?_
    refine va_get (D := D) (ci := 10) (v := .ref h0_tape) (C := RX11) (T := TX11) (N := 15) hx hb hts k2 hown hK.1 hP 0 rfl rfl 0 (by decide) k1 (fun _ h9 => h9) rfl dX11_heard_13 ?_
    refine va_get (D := D) (ci := 6) (v := .ref h0_tape_bytes) (C := RX6) (T := TX6) (N := 10) hx hb hts k4 hown hK.1 hP 1 rfl rfl 0 (by decide) k5 (fun _ h9 => h9) rfl dX11_heard_16 ?_
    refine lv_iconst (v := 0) hx hb dX11_heard_19 (by decide) ?_
    refine va_iald hx hb hK.1 hP 2 0 rfl rfl (rg_in (⟨by decide, by decide⟩ : rg 0 0 (0 : Int32)) (by decide) (by decide)) dX11_heard_20 ?_
    refine lv_topi (fun x_55 ex_55 => ?_)
    have h_56 : rg 0 255 x_55 := by rw [ex_55]; exact sg_at (sg_w (a' := 0) (b' := 1) (lo' := 0) (hi' := 255) s_h0_tape_bytes_0 (by decide) (by decide) (by decide) (by decide)) (⟨by decide, by decide⟩ : rg 0 0 (0 : Int32)) (by decide) (by decide) (by decide)
    refine oC_i (Wc := [(h0, .inr (10, [.ref h0_tape, .ref h0_law, .ref h0_standing, .ref h0_saying, .ref h0_courtReader, .ref h0_bookReader, .ref h0_sentenceReader, .ref h0_bench, .ref h0_whatIf, .ref h0_history, .ref h0_images, .ref h0_latest, .ref h0_latestBook, .ref h0_latestRoll, .int h0_rollLength])), (h0_law, .inr (5, [.int h0_law_jurors, .int h0_law_floors, .int h0_law_cases, .int h0_law_one, .int h0_law_dent, .int h0_law_seated, .ref h0_law_jurorName, .ref h0_law_floorName, .ref h0_law_caseName, .ref h0_law_pitch, .ref h0_law_length, .ref h0_law_hands, .ref h0_law_tune, .ref h0_law_dull, .ref h0_law_caseFloor, .ref h0_law_tuned]))]) (Wr := [(h0_tape, .inr (6, [.ref h0_tape_bytes, .int h0_tape_length, .int h0_tape_faultKind, .int h0_tape_faultAt, .long h0_tape_letters, .int h0_tape_mostBytes, .int h0_tape_behind, .int h0_tape_at, .int h0_tape_kind, .int h0_tape_number])), (aI ca h0_tape_bytes 940 F_h0_tape_bytes), (h0_bench, .inr (0, [.ref h0_bench_frees, .ref h0_bench_low, .ref h0_bench_high, .ref h0_bench_letGoWeight, .ref h0_bench_holdWeight, .ref h0_bench_heardWith])), (h0_standing, .inr (9, [.int h0_standing_day, .int h0_standing_sits, .int h0_standing_holds, .int h0_standing_trials, .int h0_standing_triedToday, .ref h0_standing_dents, .ref h0_standing_drops, .ref h0_standing_how, .ref h0_standing_triedOn, .ref h0_standing_dropped, .ref h0_standing_heldOn])), (aI ca h0_law_tuned 40 F_h0_law_tuned), (aI ca h0_law_pitch 10 F_h0_law_pitch), (aI ca h0_law_tune 4 F_h0_law_tune), (aI ca h0_standing_dents 10 F_h0_standing_dents), (aI ca h0_bench_low 1024 F_h0_bench_low), (aI ca h0_bench_high 1024 F_h0_bench_high), (aI ca h0_bench_heardWith 10 F_h0_bench_heardWith), (aI ca h0_latest 7 F_h0_latest)]) (va_runV (As := [.int x_55]) (rest := []) ⟨hx, hb, hml, hown, hts⟩ (s_X11_isFloor l D ca H.size h0 x_55 h0_tape h0_law h0_standing h0_saying h0_courtReader h0_bookReader h0_sentenceReader h0_bench h0_whatIf h0_history h0_images h0_latest h0_latestBook h0_latestRoll h0_rollLength h0_law_jurors h0_law_floors h0_law_cases h0_law_one h0_law_dent h0_law_seated h0_law_jurorName h0_law_floorName h0_law_caseName h0_law_pitch h0_law_length h0_law_hands h0_law_tune h0_law_dull h0_law_caseFloor h0_law_tuned i_h0_rollLength i_h0_law_jurors i_h0_law_floors i_h0_law_cases i_h0_law_seated) (cwV 1 hts gX11_heard_X11_isFloor rfl rfl rfl (by decide +kernel) ⟨Nat.le_of_ble_eq_true rfl, Nat.le_of_ble_eq_true rfl⟩) (oPV (C := RX11) hK hP hD [0, 3] rfl (by decide) 0 rfl (ci := 10) rfl rfl) rfl rfl hl.1 rfl (lv_room (Nat.le_of_ble_eq_true rfl)) dX11_heard_21 ⟨Nat.le_of_ble_eq_true rfl, Nat.le_of_ble_eq_true rfl⟩) hP hD hS hA [0, 3] [1, 2, 4, 5, 6, 7, 8, 9, 10, 11, 12, 13] rfl rfl (by decide) (by decide) (fun r_57 u H locs w_58 hP hD hS => ?_)
    obtain ⟨⟩ := u
    have hP : va_P D vwCl [(h0_tape, .inr (6, [.ref h0_tape_bytes, .int h0_tape_length, .int h0_tape_faultKind, .int h0_tape_faultAt, .long h0_tape_letters, .int h0_tape_mostBytes, .int h0_tape_behind, .int h0_tape_at, .int h0_tape_kind, .int h0_tape_number])), (aI ca h0_tape_bytes 940 F_h0_tape_bytes), (h0_bench, .inr (0, [.ref h0_bench_frees, .ref h0_bench_low, .ref h0_bench_high, .ref h0_bench_letGoWeight, .ref h0_bench_holdWeight, .ref h0_bench_heardWith])), (h0_standing, .inr (9, [.int h0_standing_day, .int h0_standing_sits, .int h0_standing_holds, .int h0_standing_trials, .int h0_standing_triedToday, .ref h0_standing_dents, .ref h0_standing_drops, .ref h0_standing_how, .ref h0_standing_triedOn, .ref h0_standing_dropped, .ref h0_standing_heldOn])), (aI ca h0_law_tuned 40 F_h0_law_tuned), (aI ca h0_law_pitch 10 F_h0_law_pitch), (aI ca h0_law_tune 4 F_h0_law_tune), (aI ca h0_standing_dents 10 F_h0_standing_dents), (aI ca h0_bench_low 1024 F_h0_bench_low), (aI ca h0_bench_high 1024 F_h0_bench_high), (aI ca h0_bench_heardWith 10 F_h0_bench_heardWith), (aI ca h0_latest 7 F_h0_latest), (h0, .inr (10, [.ref h0_tape, .ref h0_law, .ref h0_standing, .ref h0_saying, .ref h0_courtReader, .ref h0_bookReader, .ref h0_sentenceReader, .ref h0_bench, .ref h0_whatIf, .ref h0_history, .ref h0_images, .ref h0_latest, .ref h0_latestBook, .ref h0_latestRoll, .int h0_rollLength])), (h0_law, .inr (5, [.int h0_law_jurors, .int h0_law_floors, .int h0_law_cases, .int h0_law_one, .int h0_law_dent, .int h0_law_seated, .ref h0_law_jurorName, .ref h0_law_floorName, .ref h0_law_caseName, .ref h0_law_pitch, .ref h0_law_length, .ref h0_law_hands, .ref h0_law_tune, .ref h0_law_dull, .ref h0_law_caseFloor, .ref h0_law_tuned]))] H := hP
    have hD : va_D A [(h0_tape, .inr (6, [.ref h0_tape_bytes, .int h0_tape_length, .int h0_tape_faultKind, .int h0_tape_faultAt, .long h0_tape_letters, .int h0_tape_mostBytes, .int h0_tape_behind, .int h0_tape_at, .int h0_tape_kind, .int h0_tape_number])), (aI ca h0_tape_bytes 940 F_h0_tape_bytes), (h0_bench, .inr (0, [.ref h0_bench_frees, .ref h0_bench_low, .ref h0_bench_high, .ref h0_bench_letGoWeight, .ref h0_bench_holdWeight, .ref h0_bench_heardWith])), (h0_standing, .inr (9, [.int h0_standing_day, .int h0_standing_sits, .int h0_standing_holds, .int h0_standing_trials, .int h0_standing_triedToday, .ref h0_standing_dents, .ref h0_standing_drops, .ref h0_standing_how, .ref h0_standing_triedOn, .ref h0_standing_dropped, .ref h0_standing_heldOn])), (aI ca h0_law_tuned 40 F_h0_law_tuned), (aI ca h0_law_pitch 10 F_h0_law_pitch), (aI ca h0_law_tune 4 F_h0_law_tune), (aI ca h0_standing_dents 10 F_h0_standing_dents), (aI ca h0_bench_low 1024 F_h0_bench_low), (aI ca h0_bench_high 1024 F_h0_bench_high), (aI ca h0_bench_heardWith 10 F_h0_bench_heardWith), (aI ca h0_latest 7 F_h0_latest), (h0, .inr (10, [.ref h0_tape, .ref h0_law, .ref h0_standing, .ref h0_saying, .ref h0_courtReader, .ref h0_bookReader, .ref h0_sentenceReader, .ref h0_bench, .ref h0_whatIf, .ref h0_history, .ref h0_images, .ref h0_latest, .ref h0_latestBook, .ref h0_latestRoll, .int h0_rollLength])), (h0_law, .inr (5, [.int h0_law_jurors, .int h0_law_floors, .int h0_law_cases, .int h0_law_one, .int h0_law_dent, .int h0_law_seated, .ref h0_law_jurorName, .ref h0_law_floorName, .ref h0_law_caseName, .ref h0_law_pitch, .ref h0_law_length, .ref h0_law_hands, .ref h0_law_tune, .ref h0_law_dull, .ref h0_law_caseFloor, .ref h0_law_tuned]))] := hD
    try dsimp only at w_58
    rcases w_58 with h_59 | ⟨h_60, h_61, h_62, h_63⟩
    · skip
      subst h_59
      refine lv_if_eq (tgt := 31) hx hb dX11_heard_24 (by decide) (fun _ => ?_) (fun c => absurd (by decide) c)
      refine lv_iconst (v := 0) hx hb dX11_heard_31 (by decide) ?_
      refine lv_istore_n (lv' := [(1, .int 0), (0, .ref h0)]) hx hb dX11_heard_32 rfl hl (by decide) rfl (fun ls hl => ?_)
      refine lv_aload_n hx hb dX11_heard_33 rfl (lv_at hl 1 rfl) ?_
      refine va_get (D := D) (ci := 10) (v := .ref h0_tape) (C := RX11) (T := TX11) (N := 15) hx hb hts k2 hown hK.1 hP 12 rfl rfl 0 (by decide) k1 (fun _ h9 => h9) rfl dX11_heard_34 ?_
      refine lv_iconst (v := 0) hx hb dX11_heard_37 (by decide) ?_
      refine va_put (D := D) (ci := 6) (v := .int 0) (ty := .int) (C := RX6) (T := TX6) (N := 10) hx hb hts k4 tyX6 tyX6_ok nmX6 hown hK.1 hP hD hS 0 rfl rfl 1 (by decide) k3 (fun _ h9 => h9) rfl (by decide +kernel) rfl rfl (Nat.le_of_ble_eq_true rfl) dX11_heard_38 (fun H locs hP hD hS => ?_)
      have hP : va_P D vwCl [(h0_tape, .inr (6, [.ref h0_tape_bytes, .int 0, .int h0_tape_faultKind, .int h0_tape_faultAt, .long h0_tape_letters, .int h0_tape_mostBytes, .int h0_tape_behind, .int h0_tape_at, .int h0_tape_kind, .int h0_tape_number])), (aI ca h0_tape_bytes 940 F_h0_tape_bytes), (h0_bench, .inr (0, [.ref h0_bench_frees, .ref h0_bench_low, .ref h0_bench_high, .ref h0_bench_letGoWeight, .ref h0_bench_holdWeight, .ref h0_bench_heardWith])), (h0_standing, .inr (9, [.int h0_standing_day, .int h0_standing_sits, .int h0_standing_holds, .int h0_standing_trials, .int h0_standing_triedToday, .ref h0_standing_dents, .ref h0_standing_drops, .ref h0_standing_how, .ref h0_standing_triedOn, .ref h0_standing_dropped, .ref h0_standing_heldOn])), (aI ca h0_law_tuned 40 F_h0_law_tuned), (aI ca h0_law_pitch 10 F_h0_law_pitch), (aI ca h0_law_tune 4 F_h0_law_tune), (aI ca h0_standing_dents 10 F_h0_standing_dents), (aI ca h0_bench_low 1024 F_h0_bench_low), (aI ca h0_bench_high 1024 F_h0_bench_high), (aI ca h0_bench_heardWith 10 F_h0_bench_heardWith), (aI ca h0_latest 7 F_h0_latest), (h0, .inr (10, [.ref h0_tape, .ref h0_law, .ref h0_standing, .ref h0_saying, .ref h0_courtReader, .ref h0_bookReader, .ref h0_sentenceReader, .ref h0_bench, .ref h0_whatIf, .ref h0_history, .ref h0_images, .ref h0_latest, .ref h0_latestBook, .ref h0_latestRoll, .int h0_rollLength])), (h0_law, .inr (5, [.int h0_law_jurors, .int h0_law_floors, .int h0_law_cases, .int h0_law_one, .int h0_law_dent, .int h0_law_seated, .ref h0_law_jurorName, .ref h0_law_floorName, .ref h0_law_caseName, .ref h0_law_pitch, .ref h0_law_length, .ref h0_law_hands, .ref h0_law_tune, .ref h0_law_dull, .ref h0_law_caseFloor, .ref h0_law_tuned]))] H := hP
      have hD : va_D A [(h0_tape, .inr (6, [.ref h0_tape_bytes, .int 0, .int h0_tape_faultKind, .int h0_tape_faultAt, .long h0_tape_letters, .int h0_tape_mostBytes, .int h0_tape_behind, .int h0_tape_at, .int h0_tape_kind, .int h0_tape_number])), (aI ca h0_tape_bytes 940 F_h0_tape_bytes), (h0_bench, .inr (0, [.ref h0_bench_frees, .ref h0_bench_low, .ref h0_bench_high, .ref h0_bench_letGoWeight, .ref h0_bench_holdWeight, .ref h0_bench_heardWith])), (h0_standing, .inr (9, [.int h0_standing_day, .int h0_standing_sits, .int h0_standing_holds, .int h0_standing_trials, .int h0_standing_triedToday, .ref h0_standing_dents, .ref h0_standing_drops, .ref h0_standing_how, .ref h0_standing_triedOn, .ref h0_standing_dropped, .ref h0_standing_heldOn])), (aI ca h0_law_tuned 40 F_h0_law_tuned), (aI ca h0_law_pitch 10 F_h0_law_pitch), (aI ca h0_law_tune 4 F_h0_law_tune), (aI ca h0_standing_dents 10 F_h0_standing_dents), (aI ca h0_bench_low 1024 F_h0_bench_low), (aI ca h0_bench_high 1024 F_h0_bench_high), (aI ca h0_bench_heardWith 10 F_h0_bench_heardWith), (aI ca h0_latest 7 F_h0_latest), (h0, .inr (10, [.ref h0_tape, .ref h0_law, .ref h0_standing, .ref h0_saying, .ref h0_courtReader, .ref h0_bookReader, .ref h0_sentenceReader, .ref h0_bench, .ref h0_whatIf, .ref h0_history, .ref h0_images, .ref h0_latest, .ref h0_latestBook, .ref h0_latestRoll, .int h0_rollLength])), (h0_law, .inr (5, [.int h0_law_jurors, .int h0_law_floors, .int h0_law_cases, .int h0_law_one, .int h0_law_dent, .int h0_law_seated, .ref h0_law_jurorName, .ref h0_law_floorName, .ref h0_law_caseName, .ref h0_law_pitch, .ref h0_law_length, .ref h0_law_hands, .ref h0_law_tune, .ref h0_law_dull, .ref h0_law_caseFloor, .ref h0_law_tuned]))] := hD
      refine lv_iload_n hx hb dX11_heard_41 rfl (lv_at hl 0 rfl) ?_
      refine lv_if_ne (tgt := 47) hx hb dX11_heard_42 (by decide) (fun c => absurd (by decide) c) (fun _ => ?_)
      refine lv_iconst (v := (-1)) hx hb dX11_heard_45 (by decide) ?_
      exact oE_i hx hb hr rfl hlocks hP hD hS (F_h0_bench_low, F_h0_bench_high, F_h0_bench_heardWith, F_h0_latest) [12, 0, 1, 13, 2, 3, 4, 5, 6, 7, 8, 9, 10, 11] rfl (by decide) ⟨(eqs_w (a' := 0) (b' := 3) (eqs_rf (a := 0) (b := 7) F_h0_latest) (by decide) (by decide)), (eqs_w (a' := 5) (b' := 7) (eqs_rf (a := 0) (b := 7) F_h0_latest) (by decide) (by decide))⟩ (Nat.le_of_ble_eq_true rfl) (Nat.le_of_ble_eq_true rfl) dX11_heard_46
    · skip
      subst h_60
      refine lv_if_eq (tgt := 31) hx hb dX11_heard_24 (by decide) (fun c => absurd c (by decide)) (fun _ => ?_)
      refine lv_iconst (v := 1) hx hb dX11_heard_27 (by decide) ?_
      refine lv_goto (tgt := 32) hx hb dX11_heard_28 (by decide) ?_
      refine lv_istore_n (lv' := [(1, .int 1), (0, .ref h0)]) hx hb dX11_heard_32 rfl hl (by decide) rfl (fun ls hl => ?_)
      refine lv_aload_n hx hb dX11_heard_33 rfl (lv_at hl 1 rfl) ?_
      refine va_get (D := D) (ci := 10) (v := .ref h0_tape) (C := RX11) (T := TX11) (N := 15) hx hb hts k2 hown hK.1 hP 12 rfl rfl 0 (by decide) k1 (fun _ h9 => h9) rfl dX11_heard_34 ?_
      refine lv_iconst (v := 0) hx hb dX11_heard_37 (by decide) ?_
      refine va_put (D := D) (ci := 6) (v := .int 0) (ty := .int) (C := RX6) (T := TX6) (N := 10) hx hb hts k4 tyX6 tyX6_ok nmX6 hown hK.1 hP hD hS 0 rfl rfl 1 (by decide) k3 (fun _ h9 => h9) rfl (by decide +kernel) rfl rfl (Nat.le_of_ble_eq_true rfl) dX11_heard_38 (fun H locs hP hD hS => ?_)
      have hP : va_P D vwCl [(h0_tape, .inr (6, [.ref h0_tape_bytes, .int 0, .int h0_tape_faultKind, .int h0_tape_faultAt, .long h0_tape_letters, .int h0_tape_mostBytes, .int h0_tape_behind, .int h0_tape_at, .int h0_tape_kind, .int h0_tape_number])), (aI ca h0_tape_bytes 940 F_h0_tape_bytes), (h0_bench, .inr (0, [.ref h0_bench_frees, .ref h0_bench_low, .ref h0_bench_high, .ref h0_bench_letGoWeight, .ref h0_bench_holdWeight, .ref h0_bench_heardWith])), (h0_standing, .inr (9, [.int h0_standing_day, .int h0_standing_sits, .int h0_standing_holds, .int h0_standing_trials, .int h0_standing_triedToday, .ref h0_standing_dents, .ref h0_standing_drops, .ref h0_standing_how, .ref h0_standing_triedOn, .ref h0_standing_dropped, .ref h0_standing_heldOn])), (aI ca h0_law_tuned 40 F_h0_law_tuned), (aI ca h0_law_pitch 10 F_h0_law_pitch), (aI ca h0_law_tune 4 F_h0_law_tune), (aI ca h0_standing_dents 10 F_h0_standing_dents), (aI ca h0_bench_low 1024 F_h0_bench_low), (aI ca h0_bench_high 1024 F_h0_bench_high), (aI ca h0_bench_heardWith 10 F_h0_bench_heardWith), (aI ca h0_latest 7 F_h0_latest), (h0, .inr (10, [.ref h0_tape, .ref h0_law, .ref h0_standing, .ref h0_saying, .ref h0_courtReader, .ref h0_bookReader, .ref h0_sentenceReader, .ref h0_bench, .ref h0_whatIf, .ref h0_history, .ref h0_images, .ref h0_latest, .ref h0_latestBook, .ref h0_latestRoll, .int h0_rollLength])), (h0_law, .inr (5, [.int h0_law_jurors, .int h0_law_floors, .int h0_law_cases, .int h0_law_one, .int h0_law_dent, .int h0_law_seated, .ref h0_law_jurorName, .ref h0_law_floorName, .ref h0_law_caseName, .ref h0_law_pitch, .ref h0_law_length, .ref h0_law_hands, .ref h0_law_tune, .ref h0_law_dull, .ref h0_law_caseFloor, .ref h0_law_tuned]))] H := hP
      have hD : va_D A [(h0_tape, .inr (6, [.ref h0_tape_bytes, .int 0, .int h0_tape_faultKind, .int h0_tape_faultAt, .long h0_tape_letters, .int h0_tape_mostBytes, .int h0_tape_behind, .int h0_tape_at, .int h0_tape_kind, .int h0_tape_number])), (aI ca h0_tape_bytes 940 F_h0_tape_bytes), (h0_bench, .inr (0, [.ref h0_bench_frees, .ref h0_bench_low, .ref h0_bench_high, .ref h0_bench_letGoWeight, .ref h0_bench_holdWeight, .ref h0_bench_heardWith])), (h0_standing, .inr (9, [.int h0_standing_day, .int h0_standing_sits, .int h0_standing_holds, .int h0_standing_trials, .int h0_standing_triedToday, .ref h0_standing_dents, .ref h0_standing_drops, .ref h0_standing_how, .ref h0_standing_triedOn, .ref h0_standing_dropped, .ref h0_standing_heldOn])), (aI ca h0_law_tuned 40 F_h0_law_tuned), (aI ca h0_law_pitch 10 F_h0_law_pitch), (aI ca h0_law_tune 4 F_h0_law_tune), (aI ca h0_standing_dents 10 F_h0_standing_dents), (aI ca h0_bench_low 1024 F_h0_bench_low), (aI ca h0_bench_high 1024 F_h0_bench_high), (aI ca h0_bench_heardWith 10 F_h0_bench_heardWith), (aI ca h0_latest 7 F_h0_latest), (h0, .inr (10, [.ref h0_tape, .ref h0_law, .ref h0_standing, .ref h0_saying, .ref h0_courtReader, .ref h0_bookReader, .ref h0_sentenceReader, .ref h0_bench, .ref h0_whatIf, .ref h0_history, .ref h0_images, .ref h0_latest, .ref h0_latestBook, .ref h0_latestRoll, .int h0_rollLength])), (h0_law, .inr (5, [.int h0_law_jurors, .int h0_law_floors, .int h0_law_cases, .int h0_law_one, .int h0_law_dent, .int h0_law_seated, .ref h0_law_jurorName, .ref h0_law_floorName, .ref h0_law_caseName, .ref h0_law_pitch, .ref h0_law_length, .ref h0_law_hands, .ref h0_law_tune, .ref h0_law_dull, .ref h0_law_caseFloor, .ref h0_law_tuned]))] := hD
      refine lv_iload_n hx hb dX11_heard_41 rfl (lv_at hl 0 rfl) ?_
      refine lv_if_ne (tgt := 47) hx hb dX11_heard_42 (by decide) (fun _ => ?_) (fun c => absurd c (by decide))
      refine lv_aload_n hx hb dX11_heard_47 rfl (lv_at hl 1 rfl) ?_
      refine va_get (D := D) (ci := 10) (v := .ref h0_bench) (C := RX11) (T := TX11) (N := 15) hx hb hts k2 hown hK.1 hP 12 rfl rfl 7 (by decide) k6 (fun _ h9 => h9) rfl dX11_heard_48 ?_
      refine lv_aload_n hx hb dX11_heard_51 rfl (lv_at hl 1 rfl) ?_
      refine va_get (D := D) (ci := 10) (v := .ref h0_law) (C := RX11) (T := TX11) (N := 15) hx hb hts k2 hown hK.1 hP 12 rfl rfl 1 (by decide) k7 (fun _ h9 => h9) rfl dX11_heard_52 ?_
      refine lv_aload_n hx hb dX11_heard_55 rfl (lv_at hl 1 rfl) ?_
      refine va_get (D := D) (ci := 10) (v := .ref h0_standing) (C := RX11) (T := TX11) (N := 15) hx hb hts k2 hown hK.1 hP 12 rfl rfl 2 (by decide) k8 (fun _ h9 => h9) rfl dX11_heard_56 ?_
      refine lv_aload_n hx hb dX11_heard_59 rfl (lv_at hl 1 rfl) ?_
      refine va_get (D := D) (ci := 10) (v := .ref h0_tape) (C := RX11) (T := TX11) (N := 15) hx hb hts k2 hown hK.1 hP 12 rfl rfl 0 (by decide) k1 (fun _ h9 => h9) rfl dX11_heard_60 ?_
      refine va_get (D := D) (ci := 6) (v := .ref h0_tape_bytes) (C := RX6) (T := TX6) (N := 10) hx hb hts k4 hown hK.1 hP 0 rfl rfl 0 (by decide) k5 (fun _ h9 => h9) rfl dX11_heard_63 ?_
      refine lv_iconst (v := 0) hx hb dX11_heard_66 (by decide) ?_
      refine va_iald hx hb hK.1 hP 1 0 rfl rfl (rg_in (⟨by decide, by decide⟩ : rg 0 0 (0 : Int32)) (by decide) (by decide)) dX11_heard_67 ?_
      refine oti x_55 ex_55.symm ?_
      refine oC_v (Wc := [(h0_bench, .inr (0, [.ref h0_bench_frees, .ref h0_bench_low, .ref h0_bench_high, .ref h0_bench_letGoWeight, .ref h0_bench_holdWeight, .ref h0_bench_heardWith])), (h0_law, .inr (5, [.int h0_law_jurors, .int h0_law_floors, .int h0_law_cases, .int h0_law_one, .int h0_law_dent, .int h0_law_seated, .ref h0_law_jurorName, .ref h0_law_floorName, .ref h0_law_caseName, .ref h0_law_pitch, .ref h0_law_length, .ref h0_law_hands, .ref h0_law_tune, .ref h0_law_dull, .ref h0_law_caseFloor, .ref h0_law_tuned])), (h0_standing, .inr (9, [.int h0_standing_day, .int h0_standing_sits, .int h0_standing_holds, .int h0_standing_trials, .int h0_standing_triedToday, .ref h0_standing_dents, .ref h0_standing_drops, .ref h0_standing_how, .ref h0_standing_triedOn, .ref h0_standing_dropped, .ref h0_standing_heldOn])), (aI ca h0_law_tuned 40 F_h0_law_tuned), (aI ca h0_law_pitch 10 F_h0_law_pitch), (aI ca h0_law_tune 4 F_h0_law_tune), (aI ca h0_standing_dents 10 F_h0_standing_dents), (aI ca h0_bench_low 1024 F_h0_bench_low), (aI ca h0_bench_high 1024 F_h0_bench_high)]) (Wr := [(h0_tape, .inr (6, [.ref h0_tape_bytes, .int 0, .int h0_tape_faultKind, .int h0_tape_faultAt, .long h0_tape_letters, .int h0_tape_mostBytes, .int h0_tape_behind, .int h0_tape_at, .int h0_tape_kind, .int h0_tape_number])), (aI ca h0_tape_bytes 940 F_h0_tape_bytes), (aI ca h0_bench_heardWith 10 F_h0_bench_heardWith), (aI ca h0_latest 7 F_h0_latest), (h0, .inr (10, [.ref h0_tape, .ref h0_law, .ref h0_standing, .ref h0_saying, .ref h0_courtReader, .ref h0_bookReader, .ref h0_sentenceReader, .ref h0_bench, .ref h0_whatIf, .ref h0_history, .ref h0_images, .ref h0_latest, .ref h0_latestBook, .ref h0_latestRoll, .int h0_rollLength]))]) (va_runV (As := [.ref h0_law, .ref h0_standing, .int x_55]) (rest := []) ⟨hx, hb, hml, hown, hts⟩ (s_X0_measure l D ca H.size h0_bench h0_law h0_standing x_55 h0_bench_frees h0_bench_low h0_bench_high h0_bench_letGoWeight h0_bench_holdWeight h0_bench_heardWith h0_law_jurors h0_law_floors h0_law_cases h0_law_one h0_law_dent h0_law_seated h0_law_jurorName h0_law_floorName h0_law_caseName h0_law_pitch h0_law_length h0_law_hands h0_law_tune h0_law_dull h0_law_caseFloor h0_law_tuned h0_standing_day h0_standing_sits h0_standing_holds h0_standing_trials h0_standing_triedToday h0_standing_dents h0_standing_drops h0_standing_how h0_standing_triedOn h0_standing_dropped h0_standing_heldOn F_h0_law_tuned F_h0_law_pitch F_h0_law_tune F_h0_standing_dents F_h0_bench_low F_h0_bench_high h_61 i_h0_law_jurors (rgw (lo := 0) (hi := 4) h_62 (by decide) (by decide)) i_h0_law_cases i_h0_law_seated i_h0_standing_sits i_h0_standing_triedToday) (cwV 3 hts gX11_heard_X0_measure rfl rfl rfl (by decide +kernel) ⟨Nat.le_of_ble_eq_true rfl, Nat.le_of_ble_eq_true rfl⟩) (oPV (C := RX0) hK hP hD [2, 13, 3, 4, 5, 6, 7, 8, 9] rfl (by decide) 0 rfl (ci := 0) rfl rfl) rfl rfl hl.1 rfl (lv_room (Nat.le_of_ble_eq_true rfl)) dX11_heard_68 ⟨Nat.le_of_ble_eq_true rfl, Nat.le_of_ble_eq_true rfl⟩) hP hD hS hA [2, 13, 3, 4, 5, 6, 7, 8, 9] [0, 1, 10, 11, 12] rfl rfl (by decide) (by decide) (fun u H locs w_65 hP hD hS => ?_)
      obtain ⟨u_66, u_67⟩ := u
      have hP : va_P D vwCl [(h0_tape, .inr (6, [.ref h0_tape_bytes, .int 0, .int h0_tape_faultKind, .int h0_tape_faultAt, .long h0_tape_letters, .int h0_tape_mostBytes, .int h0_tape_behind, .int h0_tape_at, .int h0_tape_kind, .int h0_tape_number])), (aI ca h0_tape_bytes 940 F_h0_tape_bytes), (aI ca h0_bench_heardWith 10 F_h0_bench_heardWith), (aI ca h0_latest 7 F_h0_latest), (h0, .inr (10, [.ref h0_tape, .ref h0_law, .ref h0_standing, .ref h0_saying, .ref h0_courtReader, .ref h0_bookReader, .ref h0_sentenceReader, .ref h0_bench, .ref h0_whatIf, .ref h0_history, .ref h0_images, .ref h0_latest, .ref h0_latestBook, .ref h0_latestRoll, .int h0_rollLength])), (h0_bench, .inr (0, [.ref h0_bench_frees, .ref h0_bench_low, .ref h0_bench_high, .ref h0_bench_letGoWeight, .ref h0_bench_holdWeight, .ref h0_bench_heardWith])), (h0_law, .inr (5, [.int h0_law_jurors, .int h0_law_floors, .int h0_law_cases, .int h0_law_one, .int h0_law_dent, .int h0_law_seated, .ref h0_law_jurorName, .ref h0_law_floorName, .ref h0_law_caseName, .ref h0_law_pitch, .ref h0_law_length, .ref h0_law_hands, .ref h0_law_tune, .ref h0_law_dull, .ref h0_law_caseFloor, .ref h0_law_tuned])), (h0_standing, .inr (9, [.int h0_standing_day, .int h0_standing_sits, .int h0_standing_holds, .int h0_standing_trials, .int h0_standing_triedToday, .ref h0_standing_dents, .ref h0_standing_drops, .ref h0_standing_how, .ref h0_standing_triedOn, .ref h0_standing_dropped, .ref h0_standing_heldOn])), (aI ca h0_law_tuned 40 F_h0_law_tuned), (aI ca h0_law_pitch 10 F_h0_law_pitch), (aI ca h0_law_tune 4 F_h0_law_tune), (aI ca h0_standing_dents 10 F_h0_standing_dents), (aI ca h0_bench_low 1024 u_66), (aI ca h0_bench_high 1024 u_67)] H := hP
      have hD : va_D A [(h0_tape, .inr (6, [.ref h0_tape_bytes, .int 0, .int h0_tape_faultKind, .int h0_tape_faultAt, .long h0_tape_letters, .int h0_tape_mostBytes, .int h0_tape_behind, .int h0_tape_at, .int h0_tape_kind, .int h0_tape_number])), (aI ca h0_tape_bytes 940 F_h0_tape_bytes), (aI ca h0_bench_heardWith 10 F_h0_bench_heardWith), (aI ca h0_latest 7 F_h0_latest), (h0, .inr (10, [.ref h0_tape, .ref h0_law, .ref h0_standing, .ref h0_saying, .ref h0_courtReader, .ref h0_bookReader, .ref h0_sentenceReader, .ref h0_bench, .ref h0_whatIf, .ref h0_history, .ref h0_images, .ref h0_latest, .ref h0_latestBook, .ref h0_latestRoll, .int h0_rollLength])), (h0_bench, .inr (0, [.ref h0_bench_frees, .ref h0_bench_low, .ref h0_bench_high, .ref h0_bench_letGoWeight, .ref h0_bench_holdWeight, .ref h0_bench_heardWith])), (h0_law, .inr (5, [.int h0_law_jurors, .int h0_law_floors, .int h0_law_cases, .int h0_law_one, .int h0_law_dent, .int h0_law_seated, .ref h0_law_jurorName, .ref h0_law_floorName, .ref h0_law_caseName, .ref h0_law_pitch, .ref h0_law_length, .ref h0_law_hands, .ref h0_law_tune, .ref h0_law_dull, .ref h0_law_caseFloor, .ref h0_law_tuned])), (h0_standing, .inr (9, [.int h0_standing_day, .int h0_standing_sits, .int h0_standing_holds, .int h0_standing_trials, .int h0_standing_triedToday, .ref h0_standing_dents, .ref h0_standing_drops, .ref h0_standing_how, .ref h0_standing_triedOn, .ref h0_standing_dropped, .ref h0_standing_heldOn])), (aI ca h0_law_tuned 40 F_h0_law_tuned), (aI ca h0_law_pitch 10 F_h0_law_pitch), (aI ca h0_law_tune 4 F_h0_law_tune), (aI ca h0_standing_dents 10 F_h0_standing_dents), (aI ca h0_bench_low 1024 u_66), (aI ca h0_bench_high 1024 u_67)] := hD
      try dsimp only at w_65
      obtain ⟨h_68, h_69⟩ := w_65
      have q_70 : eqs 0 1 u_66 F_h0_bench_low := eqs_tr h_68 (eqs_rf (a := 0) (b := 1024) F_h0_bench_low) (by decide) (by decide) (by decide) (by decide)
      have q_71 : eqs 0 1 u_67 F_h0_bench_high := eqs_tr h_69 (eqs_rf (a := 0) (b := 1024) F_h0_bench_high) (by decide) (by decide) (by decide) (by decide)
      refine lv_aload_n hx hb dX11_heard_71 rfl (lv_at hl 1 rfl) ?_
      refine va_get (D := D) (ci := 10) (v := .ref h0_bench) (C := RX11) (T := TX11) (N := 15) hx hb hts k2 hown hK.1 hP 4 rfl rfl 7 (by decide) k6 (fun _ h9 => h9) rfl dX11_heard_72 ?_
      refine lv_aload_n hx hb dX11_heard_75 rfl (lv_at hl 1 rfl) ?_
      refine va_get (D := D) (ci := 10) (v := .ref h0_standing) (C := RX11) (T := TX11) (N := 15) hx hb hts k2 hown hK.1 hP 4 rfl rfl 2 (by decide) k8 (fun _ h9 => h9) rfl dX11_heard_76 ?_
      refine va_get (D := D) (ci := 9) (v := .int h0_standing_sits) (C := RX9) (T := TX9) (N := 11) hx hb hts k10 hown hK.1 hP 7 rfl rfl 1 (by decide) k9 (fun _ h9 => h9) rfl dX11_heard_79 ?_
      refine lv_aload_n hx hb dX11_heard_82 rfl (lv_at hl 1 rfl) ?_
      refine va_get (D := D) (ci := 10) (v := .ref h0_tape) (C := RX11) (T := TX11) (N := 15) hx hb hts k2 hown hK.1 hP 4 rfl rfl 0 (by decide) k1 (fun _ h9 => h9) rfl dX11_heard_83 ?_
      refine va_get (D := D) (ci := 6) (v := .ref h0_tape_bytes) (C := RX6) (T := TX6) (N := 10) hx hb hts k4 hown hK.1 hP 0 rfl rfl 0 (by decide) k5 (fun _ h9 => h9) rfl dX11_heard_86 ?_
      refine lv_iconst (v := 1) hx hb dX11_heard_89 (by decide) ?_
      refine va_iald hx hb hK.1 hP 1 0 rfl rfl (rg_in (⟨by decide, by decide⟩ : rg 1 1 (1 : Int32)) (by decide) (by decide)) dX11_heard_90 ?_
      refine lv_topi (fun x_72 ex_72 => ?_)
      have h_73 : rg 0 255 x_72 := by rw [ex_72]; exact sg_at (sg_w (a' := 1) (b' := 2) (lo' := 0) (hi' := 255) s_h0_tape_bytes_0 (by decide) (by decide) (by decide) (by decide)) (⟨by decide, by decide⟩ : rg 1 1 (1 : Int32)) (by decide) (by decide) (by decide)
      refine lv_aload_n hx hb dX11_heard_91 rfl (lv_at hl 1 rfl) ?_
      refine va_get (D := D) (ci := 10) (v := .ref h0_tape) (C := RX11) (T := TX11) (N := 15) hx hb hts k2 hown hK.1 hP 4 rfl rfl 0 (by decide) k1 (fun _ h9 => h9) rfl dX11_heard_92 ?_
      refine va_get (D := D) (ci := 6) (v := .ref h0_tape_bytes) (C := RX6) (T := TX6) (N := 10) hx hb hts k4 hown hK.1 hP 0 rfl rfl 0 (by decide) k5 (fun _ h9 => h9) rfl dX11_heard_95 ?_
      refine lv_iconst (v := 2) hx hb dX11_heard_98 (by decide) ?_
      refine va_iald hx hb hK.1 hP 1 0 rfl rfl (rg_in (⟨by decide, by decide⟩ : rg 2 2 (2 : Int32)) (by decide) (by decide)) dX11_heard_99 ?_
      refine lv_topi (fun x_74 ex_74 => ?_)
      have h_75 : rg 0 255 x_74 := by rw [ex_74]; exact sg_at (sg_w (a' := 2) (b' := 3) (lo' := 0) (hi' := 255) s_h0_tape_bytes_0 (by decide) (by decide) (by decide) (by decide)) (⟨by decide, by decide⟩ : rg 2 2 (2 : Int32)) (by decide) (by decide) (by decide)
      refine oC_i (Wc := [(h0_bench, .inr (0, [.ref h0_bench_frees, .ref h0_bench_low, .ref h0_bench_high, .ref h0_bench_letGoWeight, .ref h0_bench_holdWeight, .ref h0_bench_heardWith])), (aI ca h0_bench_heardWith 10 F_h0_bench_heardWith), (aI ca h0_bench_low 1024 u_66), (aI ca h0_bench_high 1024 u_67)]) (Wr := [(h0_tape, .inr (6, [.ref h0_tape_bytes, .int 0, .int h0_tape_faultKind, .int h0_tape_faultAt, .long h0_tape_letters, .int h0_tape_mostBytes, .int h0_tape_behind, .int h0_tape_at, .int h0_tape_kind, .int h0_tape_number])), (aI ca h0_tape_bytes 940 F_h0_tape_bytes), (aI ca h0_latest 7 F_h0_latest), (h0, .inr (10, [.ref h0_tape, .ref h0_law, .ref h0_standing, .ref h0_saying, .ref h0_courtReader, .ref h0_bookReader, .ref h0_sentenceReader, .ref h0_bench, .ref h0_whatIf, .ref h0_history, .ref h0_images, .ref h0_latest, .ref h0_latestBook, .ref h0_latestRoll, .int h0_rollLength])), (h0_law, .inr (5, [.int h0_law_jurors, .int h0_law_floors, .int h0_law_cases, .int h0_law_one, .int h0_law_dent, .int h0_law_seated, .ref h0_law_jurorName, .ref h0_law_floorName, .ref h0_law_caseName, .ref h0_law_pitch, .ref h0_law_length, .ref h0_law_hands, .ref h0_law_tune, .ref h0_law_dull, .ref h0_law_caseFloor, .ref h0_law_tuned])), (h0_standing, .inr (9, [.int h0_standing_day, .int h0_standing_sits, .int h0_standing_holds, .int h0_standing_trials, .int h0_standing_triedToday, .ref h0_standing_dents, .ref h0_standing_drops, .ref h0_standing_how, .ref h0_standing_triedOn, .ref h0_standing_dropped, .ref h0_standing_heldOn])), (aI ca h0_law_tuned 40 F_h0_law_tuned), (aI ca h0_law_pitch 10 F_h0_law_pitch), (aI ca h0_law_tune 4 F_h0_law_tune), (aI ca h0_standing_dents 10 F_h0_standing_dents)]) (va_runV (As := [.int h0_standing_sits, .int x_72, .int x_74]) (rest := []) ⟨hx, hb, hml, hown, hts⟩ (s_X0_hear l D ca H.size h0_bench h0_standing_sits x_72 x_74 h0_bench_frees h0_bench_low h0_bench_high h0_bench_letGoWeight h0_bench_holdWeight h0_bench_heardWith F_h0_bench_heardWith u_66 u_67 i_h0_standing_sits) (cwV 3 hts gX11_heard_X0_hear rfl rfl rfl (by decide +kernel) ⟨Nat.le_of_ble_eq_true rfl, Nat.le_of_ble_eq_true rfl⟩) (oPV (C := RX0) hK hP hD [5, 2, 12, 13] rfl (by decide) 0 rfl (ci := 0) rfl rfl) rfl rfl hl.1 rfl (lv_room (Nat.le_of_ble_eq_true rfl)) dX11_heard_100 ⟨Nat.le_of_ble_eq_true rfl, Nat.le_of_ble_eq_true rfl⟩) hP hD hS hA [5, 2, 12, 13] [0, 1, 3, 4, 6, 7, 8, 9, 10, 11] rfl rfl (by decide) (by decide) (fun r_76 u H locs w_77 hP hD hS => ?_)
      obtain ⟨u_78, rfl⟩ : ∃ z, z = u := ⟨_, rfl⟩
      have hP : va_P D vwCl [(h0_tape, .inr (6, [.ref h0_tape_bytes, .int 0, .int h0_tape_faultKind, .int h0_tape_faultAt, .long h0_tape_letters, .int h0_tape_mostBytes, .int h0_tape_behind, .int h0_tape_at, .int h0_tape_kind, .int h0_tape_number])), (aI ca h0_tape_bytes 940 F_h0_tape_bytes), (aI ca h0_latest 7 F_h0_latest), (h0, .inr (10, [.ref h0_tape, .ref h0_law, .ref h0_standing, .ref h0_saying, .ref h0_courtReader, .ref h0_bookReader, .ref h0_sentenceReader, .ref h0_bench, .ref h0_whatIf, .ref h0_history, .ref h0_images, .ref h0_latest, .ref h0_latestBook, .ref h0_latestRoll, .int h0_rollLength])), (h0_law, .inr (5, [.int h0_law_jurors, .int h0_law_floors, .int h0_law_cases, .int h0_law_one, .int h0_law_dent, .int h0_law_seated, .ref h0_law_jurorName, .ref h0_law_floorName, .ref h0_law_caseName, .ref h0_law_pitch, .ref h0_law_length, .ref h0_law_hands, .ref h0_law_tune, .ref h0_law_dull, .ref h0_law_caseFloor, .ref h0_law_tuned])), (h0_standing, .inr (9, [.int h0_standing_day, .int h0_standing_sits, .int h0_standing_holds, .int h0_standing_trials, .int h0_standing_triedToday, .ref h0_standing_dents, .ref h0_standing_drops, .ref h0_standing_how, .ref h0_standing_triedOn, .ref h0_standing_dropped, .ref h0_standing_heldOn])), (aI ca h0_law_tuned 40 F_h0_law_tuned), (aI ca h0_law_pitch 10 F_h0_law_pitch), (aI ca h0_law_tune 4 F_h0_law_tune), (aI ca h0_standing_dents 10 F_h0_standing_dents), (h0_bench, .inr (0, [.ref h0_bench_frees, .ref h0_bench_low, .ref h0_bench_high, .ref h0_bench_letGoWeight, .ref h0_bench_holdWeight, .ref h0_bench_heardWith])), (aI ca h0_bench_heardWith 10 u_78), (aI ca h0_bench_low 1024 u_66), (aI ca h0_bench_high 1024 u_67)] H := hP
      have hD : va_D A [(h0_tape, .inr (6, [.ref h0_tape_bytes, .int 0, .int h0_tape_faultKind, .int h0_tape_faultAt, .long h0_tape_letters, .int h0_tape_mostBytes, .int h0_tape_behind, .int h0_tape_at, .int h0_tape_kind, .int h0_tape_number])), (aI ca h0_tape_bytes 940 F_h0_tape_bytes), (aI ca h0_latest 7 F_h0_latest), (h0, .inr (10, [.ref h0_tape, .ref h0_law, .ref h0_standing, .ref h0_saying, .ref h0_courtReader, .ref h0_bookReader, .ref h0_sentenceReader, .ref h0_bench, .ref h0_whatIf, .ref h0_history, .ref h0_images, .ref h0_latest, .ref h0_latestBook, .ref h0_latestRoll, .int h0_rollLength])), (h0_law, .inr (5, [.int h0_law_jurors, .int h0_law_floors, .int h0_law_cases, .int h0_law_one, .int h0_law_dent, .int h0_law_seated, .ref h0_law_jurorName, .ref h0_law_floorName, .ref h0_law_caseName, .ref h0_law_pitch, .ref h0_law_length, .ref h0_law_hands, .ref h0_law_tune, .ref h0_law_dull, .ref h0_law_caseFloor, .ref h0_law_tuned])), (h0_standing, .inr (9, [.int h0_standing_day, .int h0_standing_sits, .int h0_standing_holds, .int h0_standing_trials, .int h0_standing_triedToday, .ref h0_standing_dents, .ref h0_standing_drops, .ref h0_standing_how, .ref h0_standing_triedOn, .ref h0_standing_dropped, .ref h0_standing_heldOn])), (aI ca h0_law_tuned 40 F_h0_law_tuned), (aI ca h0_law_pitch 10 F_h0_law_pitch), (aI ca h0_law_tune 4 F_h0_law_tune), (aI ca h0_standing_dents 10 F_h0_standing_dents), (h0_bench, .inr (0, [.ref h0_bench_frees, .ref h0_bench_low, .ref h0_bench_high, .ref h0_bench_letGoWeight, .ref h0_bench_holdWeight, .ref h0_bench_heardWith])), (aI ca h0_bench_heardWith 10 u_78), (aI ca h0_bench_low 1024 u_66), (aI ca h0_bench_high 1024 u_67)] := hD
      try dsimp only at w_77
      refine lv_istore_n (lv' := [(2, .int r_76), (1, .int 1), (0, .ref h0)]) hx hb dX11_heard_103 rfl hl (by decide) rfl (fun ls hl => ?_)
      refine lv_iload_n hx hb dX11_heard_104 rfl (lv_at hl 0 rfl) ?_
      refine lv_if_le (tgt := 143) hx hb dX11_heard_105 (by decide) (fun c_79 => ?_) (fun c_79 => ?_)
      · skip
        have o_80 : rl 0 r_76 0 := rl_le c_79
        have h_81 : rg (-2147483648) 0 r_76 := rl_x o_80 (rga r_76) (⟨by decide, by decide⟩ : rg 0 0 (0 : Int32)) (by decide) (by decide)
        refine lv_iload_n hx hb dX11_heard_143 rfl (lv_at hl 0 rfl) ?_
        exact oE_i hx hb hr rfl hlocks hP hD hS (u_66, u_67, u_78, F_h0_latest) [3, 0, 1, 4, 10, 5, 6, 7, 8, 9, 12, 13, 11, 2] rfl (by decide) ⟨(eqs_w (a' := 0) (b' := 3) (eqs_rf (a := 0) (b := 7) F_h0_latest) (by decide) (by decide)), (eqs_w (a' := 5) (b' := 7) (eqs_rf (a := 0) (b := 7) F_h0_latest) (by decide) (by decide))⟩ (Nat.le_of_ble_eq_true rfl) (Nat.le_of_ble_eq_true rfl) dX11_heard_144
      · skip
        have o_82 : rl 1 0 r_76 := rl_nle c_79
        have h_83 : rg 1 2147483647 r_76 := rl_y o_82 (⟨by decide, by decide⟩ : rg 0 0 (0 : Int32)) (rga r_76) (by decide) (by decide)
        refine lv_aload_n hx hb dX11_heard_108 rfl (lv_at hl 2 rfl) ?_
        refine va_get (D := D) (ci := 10) (v := .ref h0_latest) (C := RX11) (T := TX11) (N := 15) hx hb hts k2 hown hK.1 hP 3 rfl rfl 11 (by decide) k11 (fun _ h9 => h9) rfl dX11_heard_109 ?_
        refine lv_iconst (v := 3) hx hb dX11_heard_112 (by decide) ?_
        refine lv_aload_n hx hb dX11_heard_113 rfl (lv_at hl 2 rfl) ?_
        refine va_get (D := D) (ci := 10) (v := .ref h0_bench) (C := RX11) (T := TX11) (N := 15) hx hb hts k2 hown hK.1 hP 3 rfl rfl 7 (by decide) k6 (fun _ h9 => h9) rfl dX11_heard_114 ?_
        refine lv_iload_n hx hb dX11_heard_117 rfl (lv_at hl 0 rfl) ?_
        refine oC_i (Wc := [(h0_bench, .inr (0, [.ref h0_bench_frees, .ref h0_bench_low, .ref h0_bench_high, .ref h0_bench_letGoWeight, .ref h0_bench_holdWeight, .ref h0_bench_heardWith])), (aI ca h0_bench_heardWith 10 u_78)]) (Wr := [(h0_tape, .inr (6, [.ref h0_tape_bytes, .int 0, .int h0_tape_faultKind, .int h0_tape_faultAt, .long h0_tape_letters, .int h0_tape_mostBytes, .int h0_tape_behind, .int h0_tape_at, .int h0_tape_kind, .int h0_tape_number])), (aI ca h0_tape_bytes 940 F_h0_tape_bytes), (aI ca h0_latest 7 F_h0_latest), (h0, .inr (10, [.ref h0_tape, .ref h0_law, .ref h0_standing, .ref h0_saying, .ref h0_courtReader, .ref h0_bookReader, .ref h0_sentenceReader, .ref h0_bench, .ref h0_whatIf, .ref h0_history, .ref h0_images, .ref h0_latest, .ref h0_latestBook, .ref h0_latestRoll, .int h0_rollLength])), (h0_law, .inr (5, [.int h0_law_jurors, .int h0_law_floors, .int h0_law_cases, .int h0_law_one, .int h0_law_dent, .int h0_law_seated, .ref h0_law_jurorName, .ref h0_law_floorName, .ref h0_law_caseName, .ref h0_law_pitch, .ref h0_law_length, .ref h0_law_hands, .ref h0_law_tune, .ref h0_law_dull, .ref h0_law_caseFloor, .ref h0_law_tuned])), (h0_standing, .inr (9, [.int h0_standing_day, .int h0_standing_sits, .int h0_standing_holds, .int h0_standing_trials, .int h0_standing_triedToday, .ref h0_standing_dents, .ref h0_standing_drops, .ref h0_standing_how, .ref h0_standing_triedOn, .ref h0_standing_dropped, .ref h0_standing_heldOn])), (aI ca h0_law_tuned 40 F_h0_law_tuned), (aI ca h0_law_pitch 10 F_h0_law_pitch), (aI ca h0_law_tune 4 F_h0_law_tune), (aI ca h0_standing_dents 10 F_h0_standing_dents), (aI ca h0_bench_low 1024 u_66), (aI ca h0_bench_high 1024 u_67)]) (va_runV (As := [.int r_76]) (rest := [.int 3, .ref h0_latest]) ⟨hx, hb, hml, hown, hts⟩ (s_X0_inAllHeard l D ca H.size h0_bench r_76 h0_bench_frees h0_bench_low h0_bench_high h0_bench_letGoWeight h0_bench_holdWeight h0_bench_heardWith u_78) (cwV 1 hts gX11_heard_X0_inAllHeard rfl rfl rfl (by decide +kernel) ⟨Nat.le_of_ble_eq_true rfl, Nat.le_of_ble_eq_true rfl⟩) (oPV (C := RX0) hK hP hD [10, 11] rfl (by decide) 0 rfl (ci := 0) rfl rfl) rfl rfl hl.1 rfl (lv_room (Nat.le_of_ble_eq_true rfl)) dX11_heard_118 ⟨Nat.le_of_ble_eq_true rfl, Nat.le_of_ble_eq_true rfl⟩) hP hD hS hA [10, 11] [0, 1, 2, 3, 4, 5, 6, 7, 8, 9, 12, 13] rfl rfl (by decide) (by decide) (fun r_84 u H locs w_85 hP hD hS => ?_)
        obtain ⟨⟩ := u
        have hP : va_P D vwCl [(h0_tape, .inr (6, [.ref h0_tape_bytes, .int 0, .int h0_tape_faultKind, .int h0_tape_faultAt, .long h0_tape_letters, .int h0_tape_mostBytes, .int h0_tape_behind, .int h0_tape_at, .int h0_tape_kind, .int h0_tape_number])), (aI ca h0_tape_bytes 940 F_h0_tape_bytes), (aI ca h0_latest 7 F_h0_latest), (h0, .inr (10, [.ref h0_tape, .ref h0_law, .ref h0_standing, .ref h0_saying, .ref h0_courtReader, .ref h0_bookReader, .ref h0_sentenceReader, .ref h0_bench, .ref h0_whatIf, .ref h0_history, .ref h0_images, .ref h0_latest, .ref h0_latestBook, .ref h0_latestRoll, .int h0_rollLength])), (h0_law, .inr (5, [.int h0_law_jurors, .int h0_law_floors, .int h0_law_cases, .int h0_law_one, .int h0_law_dent, .int h0_law_seated, .ref h0_law_jurorName, .ref h0_law_floorName, .ref h0_law_caseName, .ref h0_law_pitch, .ref h0_law_length, .ref h0_law_hands, .ref h0_law_tune, .ref h0_law_dull, .ref h0_law_caseFloor, .ref h0_law_tuned])), (h0_standing, .inr (9, [.int h0_standing_day, .int h0_standing_sits, .int h0_standing_holds, .int h0_standing_trials, .int h0_standing_triedToday, .ref h0_standing_dents, .ref h0_standing_drops, .ref h0_standing_how, .ref h0_standing_triedOn, .ref h0_standing_dropped, .ref h0_standing_heldOn])), (aI ca h0_law_tuned 40 F_h0_law_tuned), (aI ca h0_law_pitch 10 F_h0_law_pitch), (aI ca h0_law_tune 4 F_h0_law_tune), (aI ca h0_standing_dents 10 F_h0_standing_dents), (aI ca h0_bench_low 1024 u_66), (aI ca h0_bench_high 1024 u_67), (h0_bench, .inr (0, [.ref h0_bench_frees, .ref h0_bench_low, .ref h0_bench_high, .ref h0_bench_letGoWeight, .ref h0_bench_holdWeight, .ref h0_bench_heardWith])), (aI ca h0_bench_heardWith 10 u_78)] H := hP
        have hD : va_D A [(h0_tape, .inr (6, [.ref h0_tape_bytes, .int 0, .int h0_tape_faultKind, .int h0_tape_faultAt, .long h0_tape_letters, .int h0_tape_mostBytes, .int h0_tape_behind, .int h0_tape_at, .int h0_tape_kind, .int h0_tape_number])), (aI ca h0_tape_bytes 940 F_h0_tape_bytes), (aI ca h0_latest 7 F_h0_latest), (h0, .inr (10, [.ref h0_tape, .ref h0_law, .ref h0_standing, .ref h0_saying, .ref h0_courtReader, .ref h0_bookReader, .ref h0_sentenceReader, .ref h0_bench, .ref h0_whatIf, .ref h0_history, .ref h0_images, .ref h0_latest, .ref h0_latestBook, .ref h0_latestRoll, .int h0_rollLength])), (h0_law, .inr (5, [.int h0_law_jurors, .int h0_law_floors, .int h0_law_cases, .int h0_law_one, .int h0_law_dent, .int h0_law_seated, .ref h0_law_jurorName, .ref h0_law_floorName, .ref h0_law_caseName, .ref h0_law_pitch, .ref h0_law_length, .ref h0_law_hands, .ref h0_law_tune, .ref h0_law_dull, .ref h0_law_caseFloor, .ref h0_law_tuned])), (h0_standing, .inr (9, [.int h0_standing_day, .int h0_standing_sits, .int h0_standing_holds, .int h0_standing_trials, .int h0_standing_triedToday, .ref h0_standing_dents, .ref h0_standing_drops, .ref h0_standing_how, .ref h0_standing_triedOn, .ref h0_standing_dropped, .ref h0_standing_heldOn])), (aI ca h0_law_tuned 40 F_h0_law_tuned), (aI ca h0_law_pitch 10 F_h0_law_pitch), (aI ca h0_law_tune 4 F_h0_law_tune), (aI ca h0_standing_dents 10 F_h0_standing_dents), (aI ca h0_bench_low 1024 u_66), (aI ca h0_bench_high 1024 u_67), (h0_bench, .inr (0, [.ref h0_bench_frees, .ref h0_bench_low, .ref h0_bench_high, .ref h0_bench_letGoWeight, .ref h0_bench_holdWeight, .ref h0_bench_heardWith])), (aI ca h0_bench_heardWith 10 u_78)] := hD
        try dsimp only at w_85
        have h_86 := w_85
        refine va_iast hx hb hK.1 hP hD hS 2 0 rfl rfl (rg_in (⟨by decide, by decide⟩ : rg 3 3 (3 : Int32)) (by decide) (by decide)) dX11_heard_121 (fun H locs hP hD hS => ?_)
        obtain ⟨g_87, eg_87⟩ : ∃ y : Nat → Int32, y = upd F_h0_latest (3 : Int32).toNatClampNeg (r_84 : Int32) := ⟨_, rfl⟩
        rw [← eg_87] at hP hD
        have s_88 : sg 3 4 0 1023 g_87 := sg_one eg_87 h_86
        have q_89 : eqs 0 3 g_87 F_h0_latest := eqs_out (eqs_rf (a := 0) (b := 7) F_h0_latest) eg_87 (⟨by decide, by decide⟩ : rg 3 3 (3 : Int32)) (by decide) (by decide) (by decide) (by decide)
        have q_90 : eqs 4 7 g_87 F_h0_latest := eqs_out (eqs_rf (a := 0) (b := 7) F_h0_latest) eg_87 (⟨by decide, by decide⟩ : rg 3 3 (3 : Int32)) (by decide) (by decide) (by decide) (by decide)
        have hP : va_P D vwCl [(h0_tape, .inr (6, [.ref h0_tape_bytes, .int 0, .int h0_tape_faultKind, .int h0_tape_faultAt, .long h0_tape_letters, .int h0_tape_mostBytes, .int h0_tape_behind, .int h0_tape_at, .int h0_tape_kind, .int h0_tape_number])), (aI ca h0_tape_bytes 940 F_h0_tape_bytes), (aI ca h0_latest 7 g_87), (h0, .inr (10, [.ref h0_tape, .ref h0_law, .ref h0_standing, .ref h0_saying, .ref h0_courtReader, .ref h0_bookReader, .ref h0_sentenceReader, .ref h0_bench, .ref h0_whatIf, .ref h0_history, .ref h0_images, .ref h0_latest, .ref h0_latestBook, .ref h0_latestRoll, .int h0_rollLength])), (h0_law, .inr (5, [.int h0_law_jurors, .int h0_law_floors, .int h0_law_cases, .int h0_law_one, .int h0_law_dent, .int h0_law_seated, .ref h0_law_jurorName, .ref h0_law_floorName, .ref h0_law_caseName, .ref h0_law_pitch, .ref h0_law_length, .ref h0_law_hands, .ref h0_law_tune, .ref h0_law_dull, .ref h0_law_caseFloor, .ref h0_law_tuned])), (h0_standing, .inr (9, [.int h0_standing_day, .int h0_standing_sits, .int h0_standing_holds, .int h0_standing_trials, .int h0_standing_triedToday, .ref h0_standing_dents, .ref h0_standing_drops, .ref h0_standing_how, .ref h0_standing_triedOn, .ref h0_standing_dropped, .ref h0_standing_heldOn])), (aI ca h0_law_tuned 40 F_h0_law_tuned), (aI ca h0_law_pitch 10 F_h0_law_pitch), (aI ca h0_law_tune 4 F_h0_law_tune), (aI ca h0_standing_dents 10 F_h0_standing_dents), (aI ca h0_bench_low 1024 u_66), (aI ca h0_bench_high 1024 u_67), (h0_bench, .inr (0, [.ref h0_bench_frees, .ref h0_bench_low, .ref h0_bench_high, .ref h0_bench_letGoWeight, .ref h0_bench_holdWeight, .ref h0_bench_heardWith])), (aI ca h0_bench_heardWith 10 u_78)] H := hP
        have hD : va_D A [(h0_tape, .inr (6, [.ref h0_tape_bytes, .int 0, .int h0_tape_faultKind, .int h0_tape_faultAt, .long h0_tape_letters, .int h0_tape_mostBytes, .int h0_tape_behind, .int h0_tape_at, .int h0_tape_kind, .int h0_tape_number])), (aI ca h0_tape_bytes 940 F_h0_tape_bytes), (aI ca h0_latest 7 g_87), (h0, .inr (10, [.ref h0_tape, .ref h0_law, .ref h0_standing, .ref h0_saying, .ref h0_courtReader, .ref h0_bookReader, .ref h0_sentenceReader, .ref h0_bench, .ref h0_whatIf, .ref h0_history, .ref h0_images, .ref h0_latest, .ref h0_latestBook, .ref h0_latestRoll, .int h0_rollLength])), (h0_law, .inr (5, [.int h0_law_jurors, .int h0_law_floors, .int h0_law_cases, .int h0_law_one, .int h0_law_dent, .int h0_law_seated, .ref h0_law_jurorName, .ref h0_law_floorName, .ref h0_law_caseName, .ref h0_law_pitch, .ref h0_law_length, .ref h0_law_hands, .ref h0_law_tune, .ref h0_law_dull, .ref h0_law_caseFloor, .ref h0_law_tuned])), (h0_standing, .inr (9, [.int h0_standing_day, .int h0_standing_sits, .int h0_standing_holds, .int h0_standing_trials, .int h0_standing_triedToday, .ref h0_standing_dents, .ref h0_standing_drops, .ref h0_standing_how, .ref h0_standing_triedOn, .ref h0_standing_dropped, .ref h0_standing_heldOn])), (aI ca h0_law_tuned 40 F_h0_law_tuned), (aI ca h0_law_pitch 10 F_h0_law_pitch), (aI ca h0_law_tune 4 F_h0_law_tune), (aI ca h0_standing_dents 10 F_h0_standing_dents), (aI ca h0_bench_low 1024 u_66), (aI ca h0_bench_high 1024 u_67), (h0_bench, .inr (0, [.ref h0_bench_frees, .ref h0_bench_low, .ref h0_bench_high, .ref h0_bench_letGoWeight, .ref h0_bench_holdWeight, .ref h0_bench_heardWith])), (aI ca h0_bench_heardWith 10 u_78)] := hD
        refine lv_aload_n hx hb dX11_heard_122 rfl (lv_at hl 2 rfl) ?_
        refine va_get (D := D) (ci := 10) (v := .ref h0_latest) (C := RX11) (T := TX11) (N := 15) hx hb hts k2 hown hK.1 hP 3 rfl rfl 11 (by decide) k11 (fun _ h9 => h9) rfl dX11_heard_123 ?_
        refine lv_iconst (v := 4) hx hb dX11_heard_126 (by decide) ?_
        refine lv_aload_n hx hb dX11_heard_127 rfl (lv_at hl 2 rfl) ?_
        refine va_get (D := D) (ci := 10) (v := .ref h0_bench) (C := RX11) (T := TX11) (N := 15) hx hb hts k2 hown hK.1 hP 3 rfl rfl 7 (by decide) k6 (fun _ h9 => h9) rfl dX11_heard_128 ?_
        refine lv_aload_n hx hb dX11_heard_131 rfl (lv_at hl 2 rfl) ?_
        refine va_get (D := D) (ci := 10) (v := .ref h0_standing) (C := RX11) (T := TX11) (N := 15) hx hb hts k2 hown hK.1 hP 3 rfl rfl 2 (by decide) k8 (fun _ h9 => h9) rfl dX11_heard_132 ?_
        refine va_get (D := D) (ci := 9) (v := .int h0_standing_sits) (C := RX9) (T := TX9) (N := 11) hx hb hts k10 hown hK.1 hP 5 rfl rfl 1 (by decide) k9 (fun _ h9 => h9) rfl dX11_heard_135 ?_
        refine lv_iload_n hx hb dX11_heard_138 rfl (lv_at hl 0 rfl) ?_
        refine oC_i (Wc := [(h0_bench, .inr (0, [.ref h0_bench_frees, .ref h0_bench_low, .ref h0_bench_high, .ref h0_bench_letGoWeight, .ref h0_bench_holdWeight, .ref h0_bench_heardWith])), (aI ca h0_bench_heardWith 10 u_78)]) (Wr := [(h0_tape, .inr (6, [.ref h0_tape_bytes, .int 0, .int h0_tape_faultKind, .int h0_tape_faultAt, .long h0_tape_letters, .int h0_tape_mostBytes, .int h0_tape_behind, .int h0_tape_at, .int h0_tape_kind, .int h0_tape_number])), (aI ca h0_tape_bytes 940 F_h0_tape_bytes), (aI ca h0_latest 7 g_87), (h0, .inr (10, [.ref h0_tape, .ref h0_law, .ref h0_standing, .ref h0_saying, .ref h0_courtReader, .ref h0_bookReader, .ref h0_sentenceReader, .ref h0_bench, .ref h0_whatIf, .ref h0_history, .ref h0_images, .ref h0_latest, .ref h0_latestBook, .ref h0_latestRoll, .int h0_rollLength])), (h0_law, .inr (5, [.int h0_law_jurors, .int h0_law_floors, .int h0_law_cases, .int h0_law_one, .int h0_law_dent, .int h0_law_seated, .ref h0_law_jurorName, .ref h0_law_floorName, .ref h0_law_caseName, .ref h0_law_pitch, .ref h0_law_length, .ref h0_law_hands, .ref h0_law_tune, .ref h0_law_dull, .ref h0_law_caseFloor, .ref h0_law_tuned])), (h0_standing, .inr (9, [.int h0_standing_day, .int h0_standing_sits, .int h0_standing_holds, .int h0_standing_trials, .int h0_standing_triedToday, .ref h0_standing_dents, .ref h0_standing_drops, .ref h0_standing_how, .ref h0_standing_triedOn, .ref h0_standing_dropped, .ref h0_standing_heldOn])), (aI ca h0_law_tuned 40 F_h0_law_tuned), (aI ca h0_law_pitch 10 F_h0_law_pitch), (aI ca h0_law_tune 4 F_h0_law_tune), (aI ca h0_standing_dents 10 F_h0_standing_dents), (aI ca h0_bench_low 1024 u_66), (aI ca h0_bench_high 1024 u_67)]) (va_runV (As := [.int h0_standing_sits, .int r_76]) (rest := [.int 4, .ref h0_latest]) ⟨hx, hb, hml, hown, hts⟩ (s_X0_inHalfHeard l D ca H.size h0_bench h0_standing_sits r_76 h0_bench_frees h0_bench_low h0_bench_high h0_bench_letGoWeight h0_bench_holdWeight h0_bench_heardWith u_78) (cwV 2 hts gX11_heard_X0_inHalfHeard rfl rfl rfl (by decide +kernel) ⟨Nat.le_of_ble_eq_true rfl, Nat.le_of_ble_eq_true rfl⟩) (oPV (C := RX0) hK hP hD [12, 13] rfl (by decide) 0 rfl (ci := 0) rfl rfl) rfl rfl hl.1 rfl (lv_room (Nat.le_of_ble_eq_true rfl)) dX11_heard_139 ⟨Nat.le_of_ble_eq_true rfl, Nat.le_of_ble_eq_true rfl⟩) hP hD hS hA [12, 13] [0, 1, 2, 3, 4, 5, 6, 7, 8, 9, 10, 11] rfl rfl (by decide) (by decide) (fun r_91 u H locs w_92 hP hD hS => ?_)
        obtain ⟨⟩ := u
        have hP : va_P D vwCl [(h0_tape, .inr (6, [.ref h0_tape_bytes, .int 0, .int h0_tape_faultKind, .int h0_tape_faultAt, .long h0_tape_letters, .int h0_tape_mostBytes, .int h0_tape_behind, .int h0_tape_at, .int h0_tape_kind, .int h0_tape_number])), (aI ca h0_tape_bytes 940 F_h0_tape_bytes), (aI ca h0_latest 7 g_87), (h0, .inr (10, [.ref h0_tape, .ref h0_law, .ref h0_standing, .ref h0_saying, .ref h0_courtReader, .ref h0_bookReader, .ref h0_sentenceReader, .ref h0_bench, .ref h0_whatIf, .ref h0_history, .ref h0_images, .ref h0_latest, .ref h0_latestBook, .ref h0_latestRoll, .int h0_rollLength])), (h0_law, .inr (5, [.int h0_law_jurors, .int h0_law_floors, .int h0_law_cases, .int h0_law_one, .int h0_law_dent, .int h0_law_seated, .ref h0_law_jurorName, .ref h0_law_floorName, .ref h0_law_caseName, .ref h0_law_pitch, .ref h0_law_length, .ref h0_law_hands, .ref h0_law_tune, .ref h0_law_dull, .ref h0_law_caseFloor, .ref h0_law_tuned])), (h0_standing, .inr (9, [.int h0_standing_day, .int h0_standing_sits, .int h0_standing_holds, .int h0_standing_trials, .int h0_standing_triedToday, .ref h0_standing_dents, .ref h0_standing_drops, .ref h0_standing_how, .ref h0_standing_triedOn, .ref h0_standing_dropped, .ref h0_standing_heldOn])), (aI ca h0_law_tuned 40 F_h0_law_tuned), (aI ca h0_law_pitch 10 F_h0_law_pitch), (aI ca h0_law_tune 4 F_h0_law_tune), (aI ca h0_standing_dents 10 F_h0_standing_dents), (aI ca h0_bench_low 1024 u_66), (aI ca h0_bench_high 1024 u_67), (h0_bench, .inr (0, [.ref h0_bench_frees, .ref h0_bench_low, .ref h0_bench_high, .ref h0_bench_letGoWeight, .ref h0_bench_holdWeight, .ref h0_bench_heardWith])), (aI ca h0_bench_heardWith 10 u_78)] H := hP
        have hD : va_D A [(h0_tape, .inr (6, [.ref h0_tape_bytes, .int 0, .int h0_tape_faultKind, .int h0_tape_faultAt, .long h0_tape_letters, .int h0_tape_mostBytes, .int h0_tape_behind, .int h0_tape_at, .int h0_tape_kind, .int h0_tape_number])), (aI ca h0_tape_bytes 940 F_h0_tape_bytes), (aI ca h0_latest 7 g_87), (h0, .inr (10, [.ref h0_tape, .ref h0_law, .ref h0_standing, .ref h0_saying, .ref h0_courtReader, .ref h0_bookReader, .ref h0_sentenceReader, .ref h0_bench, .ref h0_whatIf, .ref h0_history, .ref h0_images, .ref h0_latest, .ref h0_latestBook, .ref h0_latestRoll, .int h0_rollLength])), (h0_law, .inr (5, [.int h0_law_jurors, .int h0_law_floors, .int h0_law_cases, .int h0_law_one, .int h0_law_dent, .int h0_law_seated, .ref h0_law_jurorName, .ref h0_law_floorName, .ref h0_law_caseName, .ref h0_law_pitch, .ref h0_law_length, .ref h0_law_hands, .ref h0_law_tune, .ref h0_law_dull, .ref h0_law_caseFloor, .ref h0_law_tuned])), (h0_standing, .inr (9, [.int h0_standing_day, .int h0_standing_sits, .int h0_standing_holds, .int h0_standing_trials, .int h0_standing_triedToday, .ref h0_standing_dents, .ref h0_standing_drops, .ref h0_standing_how, .ref h0_standing_triedOn, .ref h0_standing_dropped, .ref h0_standing_heldOn])), (aI ca h0_law_tuned 40 F_h0_law_tuned), (aI ca h0_law_pitch 10 F_h0_law_pitch), (aI ca h0_law_tune 4 F_h0_law_tune), (aI ca h0_standing_dents 10 F_h0_standing_dents), (aI ca h0_bench_low 1024 u_66), (aI ca h0_bench_high 1024 u_67), (h0_bench, .inr (0, [.ref h0_bench_frees, .ref h0_bench_low, .ref h0_bench_high, .ref h0_bench_letGoWeight, .ref h0_bench_holdWeight, .ref h0_bench_heardWith])), (aI ca h0_bench_heardWith 10 u_78)] := hD
        try dsimp only at w_92
        have h_93 := w_92
        refine va_iast hx hb hK.1 hP hD hS 2 0 rfl rfl (rg_in (⟨by decide, by decide⟩ : rg 4 4 (4 : Int32)) (by decide) (by decide)) dX11_heard_142 (fun H locs hP hD hS => ?_)
        obtain ⟨g_94, eg_94⟩ : ∃ y : Nat → Int32, y = upd g_87 (4 : Int32).toNatClampNeg (r_91 : Int32) := ⟨_, rfl⟩
        rw [← eg_94] at hP hD
        have s_95 : sg 3 4 0 1023 g_94 := sg_out s_88 eg_94 (⟨by decide, by decide⟩ : rg 4 4 (4 : Int32)) (by decide) (by decide)
        have s_96 : sg 4 5 (-1) 9 g_94 := sg_one eg_94 h_93
        have q_97 : eqs 0 3 g_94 F_h0_latest := eqs_out q_89 eg_94 (⟨by decide, by decide⟩ : rg 4 4 (4 : Int32)) (by decide) (by decide) (by decide) (by decide)
        have q_98 : eqs 5 7 g_94 F_h0_latest := eqs_out q_90 eg_94 (⟨by decide, by decide⟩ : rg 4 4 (4 : Int32)) (by decide) (by decide) (by decide) (by decide)
        have hP : va_P D vwCl [(h0_tape, .inr (6, [.ref h0_tape_bytes, .int 0, .int h0_tape_faultKind, .int h0_tape_faultAt, .long h0_tape_letters, .int h0_tape_mostBytes, .int h0_tape_behind, .int h0_tape_at, .int h0_tape_kind, .int h0_tape_number])), (aI ca h0_tape_bytes 940 F_h0_tape_bytes), (aI ca h0_latest 7 g_94), (h0, .inr (10, [.ref h0_tape, .ref h0_law, .ref h0_standing, .ref h0_saying, .ref h0_courtReader, .ref h0_bookReader, .ref h0_sentenceReader, .ref h0_bench, .ref h0_whatIf, .ref h0_history, .ref h0_images, .ref h0_latest, .ref h0_latestBook, .ref h0_latestRoll, .int h0_rollLength])), (h0_law, .inr (5, [.int h0_law_jurors, .int h0_law_floors, .int h0_law_cases, .int h0_law_one, .int h0_law_dent, .int h0_law_seated, .ref h0_law_jurorName, .ref h0_law_floorName, .ref h0_law_caseName, .ref h0_law_pitch, .ref h0_law_length, .ref h0_law_hands, .ref h0_law_tune, .ref h0_law_dull, .ref h0_law_caseFloor, .ref h0_law_tuned])), (h0_standing, .inr (9, [.int h0_standing_day, .int h0_standing_sits, .int h0_standing_holds, .int h0_standing_trials, .int h0_standing_triedToday, .ref h0_standing_dents, .ref h0_standing_drops, .ref h0_standing_how, .ref h0_standing_triedOn, .ref h0_standing_dropped, .ref h0_standing_heldOn])), (aI ca h0_law_tuned 40 F_h0_law_tuned), (aI ca h0_law_pitch 10 F_h0_law_pitch), (aI ca h0_law_tune 4 F_h0_law_tune), (aI ca h0_standing_dents 10 F_h0_standing_dents), (aI ca h0_bench_low 1024 u_66), (aI ca h0_bench_high 1024 u_67), (h0_bench, .inr (0, [.ref h0_bench_frees, .ref h0_bench_low, .ref h0_bench_high, .ref h0_bench_letGoWeight, .ref h0_bench_holdWeight, .ref h0_bench_heardWith])), (aI ca h0_bench_heardWith 10 u_78)] H := hP
        have hD : va_D A [(h0_tape, .inr (6, [.ref h0_tape_bytes, .int 0, .int h0_tape_faultKind, .int h0_tape_faultAt, .long h0_tape_letters, .int h0_tape_mostBytes, .int h0_tape_behind, .int h0_tape_at, .int h0_tape_kind, .int h0_tape_number])), (aI ca h0_tape_bytes 940 F_h0_tape_bytes), (aI ca h0_latest 7 g_94), (h0, .inr (10, [.ref h0_tape, .ref h0_law, .ref h0_standing, .ref h0_saying, .ref h0_courtReader, .ref h0_bookReader, .ref h0_sentenceReader, .ref h0_bench, .ref h0_whatIf, .ref h0_history, .ref h0_images, .ref h0_latest, .ref h0_latestBook, .ref h0_latestRoll, .int h0_rollLength])), (h0_law, .inr (5, [.int h0_law_jurors, .int h0_law_floors, .int h0_law_cases, .int h0_law_one, .int h0_law_dent, .int h0_law_seated, .ref h0_law_jurorName, .ref h0_law_floorName, .ref h0_law_caseName, .ref h0_law_pitch, .ref h0_law_length, .ref h0_law_hands, .ref h0_law_tune, .ref h0_law_dull, .ref h0_law_caseFloor, .ref h0_law_tuned])), (h0_standing, .inr (9, [.int h0_standing_day, .int h0_standing_sits, .int h0_standing_holds, .int h0_standing_trials, .int h0_standing_triedToday, .ref h0_standing_dents, .ref h0_standing_drops, .ref h0_standing_how, .ref h0_standing_triedOn, .ref h0_standing_dropped, .ref h0_standing_heldOn])), (aI ca h0_law_tuned 40 F_h0_law_tuned), (aI ca h0_law_pitch 10 F_h0_law_pitch), (aI ca h0_law_tune 4 F_h0_law_tune), (aI ca h0_standing_dents 10 F_h0_standing_dents), (aI ca h0_bench_low 1024 u_66), (aI ca h0_bench_high 1024 u_67), (h0_bench, .inr (0, [.ref h0_bench_frees, .ref h0_bench_low, .ref h0_bench_high, .ref h0_bench_letGoWeight, .ref h0_bench_holdWeight, .ref h0_bench_heardWith])), (aI ca h0_bench_heardWith 10 u_78)] := hD
        refine lv_iload_n hx hb dX11_heard_143 rfl (lv_at hl 0 rfl) ?_
        exact oE_i hx hb hr rfl hlocks hP hD hS (u_66, u_67, u_78, g_94) [3, 0, 1, 4, 12, 5, 6, 7, 8, 9, 10, 11, 13, 2] rfl (by decide) ⟨q_97, q_98⟩ (Nat.le_of_ble_eq_true rfl) (Nat.le_of_ble_eq_true rfl) dX11_heard_144
