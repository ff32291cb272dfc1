theorem dX1_readLines_0 : decode cX1_readLines 0 = .ok (.aload_n 0, 1) := by decide +kernel
theorem dX1_readLines_1 : decode cX1_readLines 1 = .ok (.iconst 0, 1) := by decide +kernel
theorem dX1_readLines_2 : decode cX1_readLines 2 = .ok (.putfield 22, 3) := by decide +kernel
theorem dX1_readLines_5 : decode cX1_readLines 5 = .ok (.aload_n 0, 1) := by decide +kernel
theorem dX1_readLines_6 : decode cX1_readLines 6 = .ok (.getfield 18, 3) := by decide +kernel
theorem dX1_readLines_9 : decode cX1_readLines 9 = .ok (.sipush 400, 3) := by decide +kernel
theorem dX1_readLines_12 : decode cX1_readLines 12 = .ok (.invokevirtual 26, 3) := by decide +kernel
theorem dX1_readLines_15 : decode cX1_readLines 15 = .ok (.iconst 0, 1) := by decide +kernel
theorem dX1_readLines_16 : decode cX1_readLines 16 = .ok (.istore_n 2, 1) := by decide +kernel
theorem dX1_readLines_17 : decode cX1_readLines 17 = .ok (.iload_n 2, 1) := by decide +kernel
theorem dX1_readLines_18 : decode cX1_readLines 18 = .ok (.bipush 40, 2) := by decide +kernel
theorem dX1_readLines_20 : decode cX1_readLines 20 = .ok (.if_icmp .gt 24, 3) := by decide +kernel
theorem dX1_readLines_23 : decode cX1_readLines 23 = .ok (.aload_n 0, 1) := by decide +kernel
theorem dX1_readLines_24 : decode cX1_readLines 24 = .ok (.getfield 18, 3) := by decide +kernel
theorem dX1_readLines_27 : decode cX1_readLines 27 = .ok (.invokevirtual 32, 3) := by decide +kernel
theorem dX1_readLines_30 : decode cX1_readLines 30 = .ok (.ifCond .eq 14, 3) := by decide +kernel
theorem dX1_readLines_33 : decode cX1_readLines 33 = .ok (.aload_n 0, 1) := by decide +kernel
theorem dX1_readLines_34 : decode cX1_readLines 34 = .ok (.aload_n 1, 1) := by decide +kernel
theorem dX1_readLines_35 : decode cX1_readLines 35 = .ok (.invokevirtual 36, 3) := by decide +kernel
theorem dX1_readLines_38 : decode cX1_readLines 38 = .ok (.iinc 2 1, 3) := by decide +kernel
theorem dX1_readLines_41 : decode cX1_readLines 41 = .ok (.goto (-24), 3) := by decide +kernel
theorem dX1_readLines_44 : decode cX1_readLines 44 = .ok (.return_, 1) := by decide +kernel
set_option maxRecDepth 20000 in
theorem ggX1_readLines_X6_begin : GoodIn wsX1_readLines wsX6_begin := goodIn_r _ [7, 8, 9, 10, 11, 12, 13, 14, 6, 15, 16, 17, 18, 19, 20, 21, 22, 23, 24, 25, 26, 27, 28, 29, 30, 31, 32, 33, 34, 35, 36, 37, 124, 125, 126, 127, 128, 129, 130, 131, 132, 133] rfl (by decide +kernel)
set_option maxRecDepth 20000 in
theorem gX1_readLines_X6_begin : GoodIn wsX1_readLines (wsV RX1 26 RX6 yX6_begin wsX6_begin) := goodIn_app (goodIn_of _ (by decide +kernel)) ggX1_readLines_X6_begin
set_option maxRecDepth 20000 in
theorem ggX1_readLines_X6_goesOn : GoodIn wsX1_readLines wsX6_goesOn := goodIn_r _ [41, 24, 25, 26, 27, 6, 28, 10, 124, 125, 126, 127, 128, 129, 130, 131, 132, 133] rfl (by decide +kernel)
set_option maxRecDepth 20000 in
theorem gX1_readLines_X6_goesOn : GoodIn wsX1_readLines (wsV RX1 32 RX6 yX6_goesOn wsX6_goesOn) := goodIn_app (goodIn_of _ (by decide +kernel)) ggX1_readLines_X6_goesOn
set_option maxRecDepth 20000 in
theorem ggX1_readLines_X1_readLine : GoodIn wsX1_readLines wsX1_readLine := goodIn_r _ [46, 2, 47, 1, 48, 49, 50, 51, 52, 45, 53, 54, 55, 56, 57, 58, 59, 6, 60, 24, 22, 61, 62, 63, 64, 65, 66, 67, 68, 69, 70, 71, 72, 73, 74, 75, 76, 77, 78, 79, 10, 23, 11, 25, 26, 27, 28, 80, 13, 14, 15, 16, 8, 17, 18, 19, 20, 9, 21, 29, 30, 31, 32, 33, 34, 35, 36, 37, 81, 82, 83, 84, 85, 86, 87, 88, 89, 90, 91, 92, 93, 94, 12, 95, 96, 97, 98, 99, 100, 101, 102, 103, 104, 105, 106, 107, 108, 109, 110, 111, 112, 113, 114, 115, 116, 117, 118, 119, 120, 121, 122, 123, 124, 125, 126, 127, 128, 129, 130, 131, 132, 133, 134, 135, 136, 137, 138, 139, 140, 141, 142, 143, 144, 145, 146, 147, 148, 149] rfl (by decide +kernel)
set_option maxRecDepth 20000 in
theorem gX1_readLines_X1_readLine : GoodIn wsX1_readLines (wsV RX1 36 RX1 yX1_readLine wsX1_readLine) := goodIn_app (goodIn_of _ (by decide +kernel)) ggX1_readLines_X1_readLine
set_option maxHeartbeats 4000000 in
set_option maxRecDepth 100000 in
theorem s_X1_readLines (l : Launch) (D : va_G) (ca : Nat → ClassId) (ad : Nat → Nat) (wt : Nat) (sz : Nat) (h0 : Nat) (r1 : Nat) (h0_acts : Nat) (h0_whom : Nat) (h0_lines : Int32) (h0_reader : Nat) (h0_reader_bytes : Nat) (h0_reader_length : Int32) (h0_reader_faultKind : Int32) (h0_reader_faultAt : Int32) (h0_reader_letters : Int64) (h0_reader_mostBytes : Int32) (h0_reader_behind : Int32) (h0_reader_at : Int32) (h0_reader_kind : Int32) (h0_reader_number : Int32) (F_h0_reader_bytes : Nat → Int32) (r1_jurors : Int32) (r1_floors : Int32) (r1_cases : Int32) (r1_one : Int32) (r1_dent : Int32) (r1_seated : Int32) (r1_jurorName : Nat) (r1_floorName : Nat) (r1_caseName : Nat) (r1_pitch : Nat) (r1_length : Nat) (r1_hands : Nat) (r1_tune : Nat) (r1_dull : Nat) (r1_caseFloor : Nat) (r1_tuned : Nat) (F_r1_caseName : Nat → Int64) (F_h0_acts : Nat → Int32) (F_h0_whom : Nat → Int32) (F_r1_jurorName : Nat → Int64) (i_h0_lines : rg 0 40 h0_lines) (i_h0_reader_length : rg 0 940 h0_reader_length) (i_h0_reader_faultKind : rg 0 4 h0_reader_faultKind) (i_h0_reader_behind : rg 0 940 h0_reader_behind) (i_r1_jurors : rg 0 10 r1_jurors) (i_r1_floors : rg 0 4 r1_floors) (i_r1_cases : rg 0 5 r1_cases) (i_r1_seated : rg 0 1023 r1_seated) (s_h0_reader_bytes_0 : sg 0 940 0 255 F_h0_reader_bytes) : sMet l yX1_readLines wsX1_readLines ({ frames := 5, cells := 0, slots := 0, locals := 109 } : Room) [.ref h0, .ref r1] D ca ad wt sz [(h0, .inr (1, [.ref h0_acts, .ref h0_whom, .int h0_lines, .ref h0_reader])), (h0_reader, .inr (6, [.ref h0_reader_bytes, .int h0_reader_length, .int h0_reader_faultKind, .int h0_reader_faultAt, .long h0_reader_letters, .int h0_reader_mostBytes, .int h0_reader_behind, .int h0_reader_at, .int h0_reader_kind, .int h0_reader_number])), (aI ca h0_reader_bytes 940 F_h0_reader_bytes), (r1, .inr (5, [.int r1_jurors, .int r1_floors, .int r1_cases, .int r1_one, .int r1_dent, .int r1_seated, .ref r1_jurorName, .ref r1_floorName, .ref r1_caseName, .ref r1_pitch, .ref r1_length, .ref r1_hands, .ref r1_tune, .ref r1_dull, .ref r1_caseFloor, .ref r1_tuned])), (aJ ca r1_caseName 5 F_r1_caseName), (aI ca h0_acts 40 F_h0_acts), (aI ca h0_whom 40 F_h0_whom), (aJ ca r1_jurorName 10 F_r1_jurorName)] (oQv D (fun (u : Int32 × Int32 × Int32 × Int64 × Int32 × Int32 × Int32 × Int32 × (Nat → Int32) × (Nat → Int32)) => (rg 0 40 u.1) ∧ (rg 0 4 u.2.1) ∧ (rg 0 940 u.2.2.2.2.1)) (fun (u : Int32 × Int32 × Int32 × Int64 × Int32 × Int32 × Int32 × Int32 × (Nat → Int32) × (Nat → Int32)) => [(h0, .inr (1, [.ref h0_acts, .ref h0_whom, .int u.1, .ref h0_reader])), (h0_reader, .inr (6, [.ref h0_reader_bytes, .int h0_reader_length, .int u.2.1, .int u.2.2.1, .long u.2.2.2.1, .int 400, .int u.2.2.2.2.1, .int u.2.2.2.2.2.1, .int u.2.2.2.2.2.2.1, .int u.2.2.2.2.2.2.2.1])), (aI ca h0_reader_bytes 940 F_h0_reader_bytes), (r1, .inr (5, [.int r1_jurors, .int r1_floors, .int r1_cases, .int r1_one, .int r1_dent, .int r1_seated, .ref r1_jurorName, .ref r1_floorName, .ref r1_caseName, .ref r1_pitch, .ref r1_length, .ref r1_hands, .ref r1_tune, .ref r1_dull, .ref r1_caseFloor, .ref r1_tuned])), (aJ ca r1_caseName 5 F_r1_caseName), (aI ca h0_acts 40 u.2.2.2.2.2.2.2.2.1), (aI ca h0_whom 40 u.2.2.2.2.2.2.2.2.2), (aJ ca r1_jurorName 10 F_r1_jurorName)])) 0 0 := by
  refine sM (cc := cX1_readLines) (maxL := 3) (ret := none) (by decide) rfl (Nat.le_of_ble_eq_true rfl) [(0, .ref h0), (1, .ref r1)] rfl ?_
  intro p e s m below meth c A H locs ls hx hb hr hml hts hown hlocks hin hK hP hD hA hS hl hZ
  have hown : s.vm.findClass RX1 = some m.cls := hown
  have hE := hZ.2.2.2.2.2.1
  have k1 := hts (.fieldLink RX1 18 "LidCourt$BookReader" "reader" "LLidCourt$Reader;") (by decide +kernel)
  have k2 : ∀ w ∈ wsX10, w ∈ wsX1_readLines := fun _ h => List.mem_cons_of_mem _ (List.mem_append_left _ (List.mem_append_left _ (List.mem_append_right _ h)))
  have k3 := hts (.fieldLink RX1 22 "LidCourt$BookReader" "lines" "I") (by decide +kernel)
  have J17_294 : ∀ (n : Nat) (y17_0 : Int32) (y17_1 : Int32) (y17_2 : Int32) (y17_3 : Int32) (y17_4 : Int64) (y17_5 : Int32) (y17_6 : Int32) (y17_7 : Int32) (y17_8 : Int32) (f17_9 : Nat → Int32) (f17_10 : Nat → Int32), True → rg 0 41 y17_0 → rg 0 40 y17_1 → rg 0 4 y17_2 → rg 0 940 y17_5 → 41 < y17_0.toInt + (n : Int) → ∀ (H : Heap) (locs : List Loc) (ls : Array Slot), va_P D vwCl [(h0, .inr (1, [.ref h0_acts, .ref h0_whom, .int y17_1, .ref h0_reader])), (h0_reader, .inr (6, [.ref h0_reader_bytes, .int h0_reader_length, .int y17_2, .int y17_3, .long y17_4, .int 400, .int y17_5, .int y17_6, .int y17_7, .int y17_8])), (aI ca h0_reader_bytes 940 F_h0_reader_bytes), (r1, .inr (5, [.int r1_jurors, .int r1_floors, .int r1_cases, .int r1_one, .int r1_dent, .int r1_seated, .ref r1_jurorName, .ref r1_floorName, .ref r1_caseName, .ref r1_pitch, .ref r1_length, .ref r1_hands, .ref r1_tune, .ref r1_dull, .ref r1_caseFloor, .ref r1_tuned])), (aJ ca r1_caseName 5 F_r1_caseName), (aI ca h0_acts 40 f17_9), (aI ca h0_whom 40 f17_10), (aJ ca r1_jurorName 10 F_r1_jurorName)] H → va_D A [(h0, .inr (1, [.ref h0_acts, .ref h0_whom, .int y17_1, .ref h0_reader])), (h0_reader, .inr (6, [.ref h0_reader_bytes, .int h0_reader_length, .int y17_2, .int y17_3, .long y17_4, .int 400, .int y17_5, .int y17_6, .int y17_7, .int y17_8])), (aI ca h0_reader_bytes 940 F_h0_reader_bytes), (r1, .inr (5, [.int r1_jurors, .int r1_floors, .int r1_cases, .int r1_one, .int r1_dent, .int r1_seated, .ref r1_jurorName, .ref r1_floorName, .ref r1_caseName, .ref r1_pitch, .ref r1_length, .ref r1_hands, .ref r1_tune, .ref r1_dull, .ref r1_caseFloor, .ref r1_tuned])), (aJ ca r1_caseName 5 F_r1_caseName), (aI ca h0_acts 40 f17_9), (aI ca h0_whom 40 f17_10), (aJ ca r1_jurorName 10 F_r1_jurorName)] → va_S A s.heap H locs → lv_has ls 3 [(0, .ref h0), (1, .ref r1), (2, .int y17_0)] → W p l e ({ frames := 5, cells := 0, slots := 0, locals := 109 } : Room) s m ([.ref h0, .ref r1] : List Value).toArray below meth c H locs 0 0 (MQ below ((oQv D (fun (u : Int32 × Int32 × Int32 × Int64 × Int32 × Int32 × Int32 × Int32 × (Nat → Int32) × (Nat → Int32)) => (rg 0 40 u.1) ∧ (rg 0 4 u.2.1) ∧ (rg 0 940 u.2.2.2.2.1)) (fun (u : Int32 × Int32 × Int32 × Int64 × Int32 × Int32 × Int32 × Int32 × (Nat → Int32) × (Nat → Int32)) => [(h0, .inr (1, [.ref h0_acts, .ref h0_whom, .int u.1, .ref h0_reader])), (h0_reader, .inr (6, [.ref h0_reader_bytes, .int h0_reader_length, .int u.2.1, .int u.2.2.1, .long u.2.2.2.1, .int 400, .int u.2.2.2.2.1, .int u.2.2.2.2.2.1, .int u.2.2.2.2.2.2.1, .int u.2.2.2.2.2.2.2.1])), (aI ca h0_reader_bytes 940 F_h0_reader_bytes), (r1, .inr (5, [.int r1_jurors, .int r1_floors, .int r1_cases, .int r1_one, .int r1_dent, .int r1_seated, .ref r1_jurorName, .ref r1_floorName, .ref r1_caseName, .ref r1_pitch, .ref r1_length, .ref r1_hands, .ref r1_tune, .ref r1_dull, .ref r1_caseFloor, .ref r1_tuned])), (aJ ca r1_caseName 5 F_r1_caseName), (aI ca h0_acts 40 u.2.2.2.2.2.2.2.2.1), (aI ca h0_whom 40 u.2.2.2.2.2.2.2.2.2), (aJ ca r1_jurorName 10 F_r1_jurorName)])) A) ([.ref h0, .ref r1] : List Value).toArray s 0 0 A) (F0 m 17 ls []) := by
    intro n
    induction n with
    | zero => intro y17_0 y17_1 y17_2 y17_3 y17_4 y17_5 y17_6 y17_7 y17_8 f17_9 f17_10 _ hy17_0 hy17_1 hy17_2 hy17_5 hn; exact absurd hn (by have q9 := hy17_0.2; omega)
    | succ n ih =>
      intro y17_0 y17_1 y17_2 y17_3 y17_4 y17_5 y17_6 y17_7 y17_8 f17_9 f17_10 _ hy17_0 hy17_1 hy17_2 hy17_5 hn H locs ls hP hD hS hl
      refine lv_iload_n hx hb dX1_readLines_17 rfl (lv_at hl 2 rfl) ?_
      refine lv_bipush (v := 40) hx hb dX1_readLines_18 (by decide) ?_
      refine lv_icmp_gt (tgt := 44) hx hb dX1_readLines_20 (by decide) (fun c_325 => ?_) (fun c_325 => ?_)
      · skip
        have o_326 : rl 1 40 y17_0 := rl_lt c_325
        have h_327 : rg 41 41 y17_0 := rl_y o_326 (⟨by decide, by decide⟩ : rg 40 40 (40 : Int32)) hy17_0 (by decide) (by decide)
        exact oE_v hx hb hr hlocks hP hD hS (y17_1, y17_2, y17_3, y17_4, y17_5, y17_6, y17_7, y17_8, f17_9, f17_10) [0, 1, 2, 3, 4, 5, 6, 7] rfl (by decide) ⟨hy17_1, hy17_2, hy17_5⟩ (Nat.le_of_ble_eq_true rfl) (Nat.le_of_ble_eq_true rfl) dX1_readLines_44
      · skip
        have o_328 : rl 0 y17_0 40 := rl_nlt c_325
        have h_329 : rg 0 40 y17_0 := rl_x o_328 hy17_0 (⟨by decide, by decide⟩ : rg 40 40 (40 : Int32)) (by decide) (by decide)
        refine lv_aload_n hx hb dX1_readLines_23 rfl (lv_at hl 0 rfl) ?_
        refine va_get (D := D) (ci := 1) (v := .ref h0_reader) (C := RX1) (T := TX1) (N := 4) hx hb hts k2 hown hK.1 hP 0 rfl rfl 3 (by decide) k1 (fun _ h9 => h9) rfl dX1_readLines_24 ?_
        refine oC_i (Wc := [(h0_reader, .inr (6, [.ref h0_reader_bytes, .int h0_reader_length, .int y17_2, .int y17_3, .long y17_4, .int 400, .int y17_5, .int y17_6, .int y17_7, .int y17_8]))]) (Wr := [(h0, .inr (1, [.ref h0_acts, .ref h0_whom, .int y17_1, .ref h0_reader])), (aI ca h0_reader_bytes 940 F_h0_reader_bytes), (r1, .inr (5, [.int r1_jurors, .int r1_floors, .int r1_cases, .int r1_one, .int r1_dent, .int r1_seated, .ref r1_jurorName, .ref r1_floorName, .ref r1_caseName, .ref r1_pitch, .ref r1_length, .ref r1_hands, .ref r1_tune, .ref r1_dull, .ref r1_caseFloor, .ref r1_tuned])), (aJ ca r1_caseName 5 F_r1_caseName), (aI ca h0_acts 40 f17_9), (aI ca h0_whom 40 f17_10), (aJ ca r1_jurorName 10 F_r1_jurorName)]) (va_runV (As := []) (rest := []) ⟨hx, hb, hml, hown, hts⟩ (s_X6_goesOn l D ca H.size h0_reader h0_reader_bytes h0_reader_length y17_2 y17_3 y17_4 400 y17_5 y17_6 y17_7 y17_8 i_h0_reader_length hy17_2 hy17_5) (cwV 0 hts gX1_readLines_X6_goesOn rfl rfl rfl (by decide +kernel) ⟨Nat.le_of_ble_eq_true rfl, Nat.le_of_ble_eq_true rfl⟩) (oPV (C := RX6) hK hP hD [1] rfl (by decide) 0 rfl (ci := 6) rfl rfl) rfl rfl hl.1 rfl (lv_room (Nat.le_of_ble_eq_true rfl)) dX1_readLines_27 ⟨Nat.le_of_ble_eq_true rfl, Nat.le_of_ble_eq_true rfl⟩) hP hD hS hA [1] [0, 2, 3, 4, 5, 6, 7] rfl rfl (by decide) (by decide) (fun r_330 u H locs w_331 hP hD hS => ?_)
        obtain ⟨⟩ := u
        have hP : va_P D vwCl [(h0, .inr (1, [.ref h0_acts, .ref h0_whom, .int y17_1, .ref h0_reader])), (aI ca h0_reader_bytes 940 F_h0_reader_bytes), (r1, .inr (5, [.int r1_jurors, .int r1_floors, .int r1_cases, .int r1_one, .int r1_dent, .int r1_seated, .ref r1_jurorName, .ref r1_floorName, .ref r1_caseName, .ref r1_pitch, .ref r1_length, .ref r1_hands, .ref r1_tune, .ref r1_dull, .ref r1_caseFloor, .ref r1_tuned])), (aJ ca r1_caseName 5 F_r1_caseName), (aI ca h0_acts 40 f17_9), (aI ca h0_whom 40 f17_10), (aJ ca r1_jurorName 10 F_r1_jurorName), (h0_reader, .inr (6, [.ref h0_reader_bytes, .int h0_reader_length, .int y17_2, .int y17_3, .long y17_4, .int 400, .int y17_5, .int y17_6, .int y17_7, .int y17_8]))] H := hP
        have hD : va_D A [(h0, .inr (1, [.ref h0_acts, .ref h0_whom, .int y17_1, .ref h0_reader])), (aI ca h0_reader_bytes 940 F_h0_reader_bytes), (r1, .inr (5, [.int r1_jurors, .int r1_floors, .int r1_cases, .int r1_one, .int r1_dent, .int r1_seated, .ref r1_jurorName, .ref r1_floorName, .ref r1_caseName, .ref r1_pitch, .ref r1_length, .ref r1_hands, .ref r1_tune, .ref r1_dull, .ref r1_caseFloor, .ref r1_tuned])), (aJ ca r1_caseName 5 F_r1_caseName), (aI ca h0_acts 40 f17_9), (aI ca h0_whom 40 f17_10), (aJ ca r1_jurorName 10 F_r1_jurorName), (h0_reader, .inr (6, [.ref h0_reader_bytes, .int h0_reader_length, .int y17_2, .int y17_3, .long y17_4, .int 400, .int y17_5, .int y17_6, .int y17_7, .int y17_8]))] := hD
        try dsimp only at w_331
        rcases w_331 with h_332 | ⟨h_333, h_334⟩
        · skip
          subst h_332
          refine lv_if_eq (tgt := 44) hx hb dX1_readLines_30 (by decide) (fun _ => ?_) (fun c => absurd (by decide) c)
          exact oE_v hx hb hr hlocks hP hD hS (y17_1, y17_2, y17_3, y17_4, y17_5, y17_6, y17_7, y17_8, f17_9, f17_10) [0, 7, 1, 2, 3, 4, 5, 6] rfl (by decide) ⟨hy17_1, hy17_2, hy17_5⟩ (Nat.le_of_ble_eq_true rfl) (Nat.le_of_ble_eq_true rfl) dX1_readLines_44
        · skip
          subst h_333
          refine lv_if_eq (tgt := 44) hx hb dX1_readLines_30 (by decide) (fun c => absurd c (by decide)) (fun _ => ?_)
          refine lv_aload_n hx hb dX1_readLines_33 rfl (lv_at hl 0 rfl) ?_
          refine lv_aload_n hx hb dX1_readLines_34 rfl (lv_at hl 1 rfl) ?_
          refine oC_v (Wc := [(h0, .inr (1, [.ref h0_acts, .ref h0_whom, .int y17_1, .ref h0_reader])), (h0_reader, .inr (6, [.ref h0_reader_bytes, .int h0_reader_length, .int y17_2, .int y17_3, .long y17_4, .int 400, .int y17_5, .int y17_6, .int y17_7, .int y17_8])), (aI ca h0_reader_bytes 940 F_h0_reader_bytes), (r1, .inr (5, [.int r1_jurors, .int r1_floors, .int r1_cases, .int r1_one, .int r1_dent, .int r1_seated, .ref r1_jurorName, .ref r1_floorName, .ref r1_caseName, .ref r1_pitch, .ref r1_length, .ref r1_hands, .ref r1_tune, .ref r1_dull, .ref r1_caseFloor, .ref r1_tuned])), (aJ ca r1_caseName 5 F_r1_caseName), (aI ca h0_acts 40 f17_9), (aI ca h0_whom 40 f17_10), (aJ ca r1_jurorName 10 F_r1_jurorName)]) (Wr := []) (va_runV (As := [.ref r1]) (rest := []) ⟨hx, hb, hml, hown, hts⟩ (s_X1_readLine l D ca ad wt H.size h0 r1 h0_acts h0_whom y17_1 h0_reader h0_reader_bytes h0_reader_length y17_2 y17_3 y17_4 400 y17_5 y17_6 y17_7 y17_8 F_h0_reader_bytes r1_jurors r1_floors r1_cases r1_one r1_dent r1_seated r1_jurorName r1_floorName r1_caseName r1_pitch r1_length r1_hands r1_tune r1_dull r1_caseFloor r1_tuned F_r1_caseName f17_9 f17_10 F_r1_jurorName hy17_1 i_h0_reader_length (rgw (lo := 0) (hi := 4) h_334 (by decide) (by decide)) hy17_5 i_r1_jurors i_r1_floors i_r1_cases i_r1_seated (sg_w (a' := 0) (b' := 940) (lo' := 0) (hi' := 255) s_h0_reader_bytes_0 (by decide) (by decide) (by decide) (by decide))) (cwV 1 hts gX1_readLines_X1_readLine rfl rfl rfl (by decide +kernel) ⟨Nat.le_of_ble_eq_true rfl, Nat.le_of_ble_eq_true rfl⟩) (sPV (C := RX1) hZ hS hA hK hP hD [0, 7, 1, 2, 3, 4, 5, 6] rfl (by decide) 0 rfl (ci := 1) rfl rfl) rfl rfl hl.1 rfl (lv_room (Nat.le_of_ble_eq_true rfl)) dX1_readLines_35 ⟨Nat.le_of_ble_eq_true rfl, Nat.le_of_ble_eq_true rfl⟩) hP hD hS hA [0, 7, 1, 2, 3, 4, 5, 6] [] rfl rfl (by decide) (by decide) (fun u H locs w_336 hP hD hS => ?_)
          obtain ⟨u_337, u_338, u_339, u_340, u_341, u_342, u_343, u_344, u_345, u_346⟩ := u
          have hP : va_P D vwCl [(h0, .inr (1, [.ref h0_acts, .ref h0_whom, .int u_337, .ref h0_reader])), (h0_reader, .inr (6, [.ref h0_reader_bytes, .int h0_reader_length, .int u_338, .int u_339, .long u_340, .int 400, .int u_341, .int u_342, .int u_343, .int u_344])), (aI ca h0_reader_bytes 940 F_h0_reader_bytes), (r1, .inr (5, [.int r1_jurors, .int r1_floors, .int r1_cases, .int r1_one, .int r1_dent, .int r1_seated, .ref r1_jurorName, .ref r1_floorName, .ref r1_caseName, .ref r1_pitch, .ref r1_length, .ref r1_hands, .ref r1_tune, .ref r1_dull, .ref r1_caseFloor, .ref r1_tuned])), (aJ ca r1_caseName 5 F_r1_caseName), (aI ca h0_acts 40 u_345), (aI ca h0_whom 40 u_346), (aJ ca r1_jurorName 10 F_r1_jurorName)] H := hP
          have hD : va_D A [(h0, .inr (1, [.ref h0_acts, .ref h0_whom, .int u_337, .ref h0_reader])), (h0_reader, .inr (6, [.ref h0_reader_bytes, .int h0_reader_length, .int u_338, .int u_339, .long u_340, .int 400, .int u_341, .int u_342, .int u_343, .int u_344])), (aI ca h0_reader_bytes 940 F_h0_reader_bytes), (r1, .inr (5, [.int r1_jurors, .int r1_floors, .int r1_cases, .int r1_one, .int r1_dent, .int r1_seated, .ref r1_jurorName, .ref r1_floorName, .ref r1_caseName, .ref r1_pitch, .ref r1_length, .ref r1_hands, .ref r1_tune, .ref r1_dull, .ref r1_caseFloor, .ref r1_tuned])), (aJ ca r1_caseName 5 F_r1_caseName), (aI ca h0_acts 40 u_345), (aI ca h0_whom 40 u_346), (aJ ca r1_jurorName 10 F_r1_jurorName)] := hD
          try dsimp only at w_336
          obtain ⟨h_347, h_348, h_349, h_350, h_351⟩ := w_336
          obtain ⟨x_352, ex_352⟩ : ∃ y : Int32, y = y17_0 + 1 := ⟨_, rfl⟩
          have h_353 : rg 1 41 x_352 := by rw [ex_352]; exact rg_add h_329 (⟨by decide, by decide⟩ : rg 1 1 (1 : Int32)) (by decide) (by decide) (by decide) (by decide)
          have l_354 : lq x_352.toInt (y17_0.toInt + 1) := lqm (by rw [ex_352]; have q := tadd h_329 (⟨by decide, by decide⟩ : rg 1 1 (1 : Int32)) (by decide) (by decide); have r1 := lqe (lqm (by decide) : lq (1 : Int32).toInt 1); omega)
          refine lv_iinc (v := x_352) (lv' := [(2, .int x_352), (0, .ref h0), (1, .ref r1)]) hx hb dX1_readLines_38 hl (k := 2) rfl (by rw [ex_352]; rfl) (by decide) rfl (fun ls hl => ?_)
          refine lv_goto (tgt := 17) hx hb dX1_readLines_41 (by decide) ?_
          exact ih x_352 u_337 u_338 u_339 u_340 u_341 u_342 u_343 u_344 u_345 u_346 trivial (rgw (lo := 0) (hi := 41) h_353 (by decide) (by decide)) h_347 h_348 h_349 (by have q0 := lqe l_354; omega) H locs ls (oPsub hP [0, 1, 2, 3, 4, 5, 6, 7] rfl) (hD.sub [0, 1, 2, 3, 4, 5, 6, 7] (by decide) rfl) hS (lv_sub hl [1, 2, 0] rfl)
  refine lv_aload_n hx hb dX1_readLines_0 rfl (lv_at hl 0 rfl) ?_
  refine lv_iconst (v := 0) hx hb dX1_readLines_1 (by decide) ?_
  refine va_put (D := D) (ci := 1) (v := .int 0) (ty := .int) (C := RX1) (T := TX1) (N := 4) hx hb hts k2 tyX1 tyX1_ok nmX1 hown hK.1 hP hD hS 0 rfl rfl 2 (by decide) k3 (fun _ h9 => h9) rfl (by decide +kernel) rfl rfl (Nat.le_of_ble_eq_true rfl) dX1_readLines_2 (fun H locs hP hD hS => ?_)
  have hP : va_P D vwCl [(h0, .inr (1, [.ref h0_acts, .ref h0_whom, .int 0, .ref h0_reader])), (h0_reader, .inr (6, [.ref h0_reader_bytes, .int h0_reader_length, .int h0_reader_faultKind, .int h0_reader_faultAt, .long h0_reader_letters, .int h0_reader_mostBytes, .int h0_reader_behind, .int h0_reader_at, .int h0_reader_kind, .int h0_reader_number])), (aI ca h0_reader_bytes 940 F_h0_reader_bytes), (r1, .inr (5, [.int r1_jurors, .int r1_floors, .int r1_cases, .int r1_one, .int r1_dent, .int r1_seated, .ref r1_jurorName, .ref r1_floorName, .ref r1_caseName, .ref r1_pitch, .ref r1_length, .ref r1_hands, .ref r1_tune, .ref r1_dull, .ref r1_caseFloor, .ref r1_tuned])), (aJ ca r1_caseName 5 F_r1_caseName), (aI ca h0_acts 40 F_h0_acts), (aI ca h0_whom 40 F_h0_whom), (aJ ca r1_jurorName 10 F_r1_jurorName)] H := hP
  have hD : va_D A [(h0, .inr (1, [.ref h0_acts, .ref h0_whom, .int 0, .ref h0_reader])), (h0_reader, .inr (6, [.ref h0_reader_bytes, .int h0_reader_length, .int h0_reader_faultKind, .int h0_reader_faultAt, .long h0_reader_letters, .int h0_reader_mostBytes, .int h0_reader_behind, .int h0_reader_at, .int h0_reader_kind, .int h0_reader_number])), (aI ca h0_reader_bytes 940 F_h0_reader_bytes), (r1, .inr (5, [.int r1_jurors, .int r1_floors, .int r1_cases, .int r1_one, .int r1_dent, .int r1_seated, .ref r1_jurorName, .ref r1_floorName, .ref r1_caseName, .ref r1_pitch, .ref r1_length, .ref r1_hands, .ref r1_tune, .ref r1_dull, .ref r1_caseFloor, .ref r1_tuned])), (aJ ca r1_caseName 5 F_r1_caseName), (aI ca h0_acts 40 F_h0_acts), (aI ca h0_whom 40 F_h0_whom), (aJ ca r1_jurorName 10 F_r1_jurorName)] := hD
  refine lv_aload_n hx hb dX1_readLines_5 rfl (lv_at hl 0 rfl) ?_
  refine va_get (D := D) (ci := 1) (v := .ref h0_reader) (C := RX1) (T := TX1) (N := 4) hx hb hts k2 hown hK.1 hP 0 rfl rfl 3 (by decide) k1 (fun _ h9 => h9) rfl dX1_readLines_6 ?_
  refine lv_sipush (v := 400) hx hb dX1_readLines_9 (by decide) ?_
  refine oC_v (Wc := [(h0_reader, .inr (6, [.ref h0_reader_bytes, .int h0_reader_length, .int h0_reader_faultKind, .int h0_reader_faultAt, .long h0_reader_letters, .int h0_reader_mostBytes, .int h0_reader_behind, .int h0_reader_at, .int h0_reader_kind, .int h0_reader_number])), (aI ca h0_reader_bytes 940 F_h0_reader_bytes)]) (Wr := [(h0, .inr (1, [.ref h0_acts, .ref h0_whom, .int 0, .ref h0_reader])), (r1, .inr (5, [.int r1_jurors, .int r1_floors, .int r1_cases, .int r1_one, .int r1_dent, .int r1_seated, .ref r1_jurorName, .ref r1_floorName, .ref r1_caseName, .ref r1_pitch, .ref r1_length, .ref r1_hands, .ref r1_tune, .ref r1_dull, .ref r1_caseFloor, .ref r1_tuned])), (aJ ca r1_caseName 5 F_r1_caseName), (aI ca h0_acts 40 F_h0_acts), (aI ca h0_whom 40 F_h0_whom), (aJ ca r1_jurorName 10 F_r1_jurorName)]) (va_runV (As := [.int 400]) (rest := []) ⟨hx, hb, hml, hown, hts⟩ (s_X6_begin l D ca H.size h0_reader 400 h0_reader_bytes h0_reader_length h0_reader_faultKind h0_reader_faultAt h0_reader_letters h0_reader_mostBytes h0_reader_behind h0_reader_at h0_reader_kind h0_reader_number F_h0_reader_bytes i_h0_reader_length i_h0_reader_faultKind i_h0_reader_behind s_h0_reader_bytes_0) (cwV 1 hts gX1_readLines_X6_begin rfl rfl rfl (by decide +kernel) ⟨Nat.le_of_ble_eq_true rfl, Nat.le_of_ble_eq_true rfl⟩) (oPV (C := RX6) hK hP hD [1, 2] rfl (by decide) 0 rfl (ci := 6) rfl rfl) rfl rfl hl.1 rfl (lv_room (Nat.le_of_ble_eq_true rfl)) dX1_readLines_12 ⟨Nat.le_of_ble_eq_true rfl, Nat.le_of_ble_eq_true rfl⟩) hP hD hS hA [1, 2] [0, 3, 4, 5, 6, 7] rfl rfl (by decide) (by decide) (fun u H locs w_356 hP hD hS => ?_)
  obtain ⟨u_357, u_358, u_359, u_360, u_361⟩ := u
  have hP : va_P D vwCl [(h0, .inr (1, [.ref h0_acts, .ref h0_whom, .int 0, .ref h0_reader])), (r1, .inr (5, [.int r1_jurors, .int r1_floors, .int r1_cases, .int r1_one, .int r1_dent, .int r1_seated, .ref r1_jurorName, .ref r1_floorName, .ref r1_caseName, .ref r1_pitch, .ref r1_length, .ref r1_hands, .ref r1_tune, .ref r1_dull, .ref r1_caseFloor, .ref r1_tuned])), (aJ ca r1_caseName 5 F_r1_caseName), (aI ca h0_acts 40 F_h0_acts), (aI ca h0_whom 40 F_h0_whom), (aJ ca r1_jurorName 10 F_r1_jurorName), (h0_reader, .inr (6, [.ref h0_reader_bytes, .int h0_reader_length, .int 0, .int 0, .long u_357, .int 400, .int u_358, .int u_359, .int u_360, .int u_361])), (aI ca h0_reader_bytes 940 F_h0_reader_bytes)] H := hP
  have hD : va_D A [(h0, .inr (1, [.ref h0_acts, .ref h0_whom, .int 0, .ref h0_reader])), (r1, .inr (5, [.int r1_jurors, .int r1_floors, .int r1_cases, .int r1_one, .int r1_dent, .int r1_seated, .ref r1_jurorName, .ref r1_floorName, .ref r1_caseName, .ref r1_pitch, .ref r1_length, .ref r1_hands, .ref r1_tune, .ref r1_dull, .ref r1_caseFloor, .ref r1_tuned])), (aJ ca r1_caseName 5 F_r1_caseName), (aI ca h0_acts 40 F_h0_acts), (aI ca h0_whom 40 F_h0_whom), (aJ ca r1_jurorName 10 F_r1_jurorName), (h0_reader, .inr (6, [.ref h0_reader_bytes, .int h0_reader_length, .int 0, .int 0, .long u_357, .int 400, .int u_358, .int u_359, .int u_360, .int u_361])), (aI ca h0_reader_bytes 940 F_h0_reader_bytes)] := hD
  try dsimp only at w_356
  have h_362 := w_356
  refine lv_iconst (v := 0) hx hb dX1_readLines_15 (by decide) ?_
  refine lv_istore_n (lv' := [(2, .int 0), (0, .ref h0), (1, .ref r1)]) hx hb dX1_readLines_16 rfl hl (by decide) rfl (fun ls hl => ?_)
  exact J17_294 42 0 0 0 0 u_357 u_358 u_359 u_360 u_361 F_h0_acts F_h0_whom trivial (⟨by decide, by decide⟩ : rg 0 41 (0 : Int32)) (⟨by decide, by decide⟩ : rg 0 40 (0 : Int32)) (⟨by decide, by decide⟩ : rg 0 4 (0 : Int32)) h_362 (by have q0 := (⟨by decide, by decide⟩ : rg 0 0 (0 : Int32)).1; omega) H locs ls (oPsub hP [0, 6, 7, 1, 2, 3, 4, 5] rfl) (hD.sub [0, 6, 7, 1, 2, 3, 4, 5] (by decide) rfl) hS (lv_sub hl [1, 2, 0] rfl)
theorem dX11_book_0 : decode cX11_book 0 = .ok (.iload_n 1, 1) := by decide +kernel
theorem dX11_book_1 : decode cX11_book 1 = .ok (.ifCond .eq 12, 3) := by decide +kernel
theorem dX11_book_4 : decode cX11_book 4 = .ok (.iload_n 1, 1) := by decide +kernel
theorem dX11_book_5 : decode cX11_book 5 = .ok (.iconst 1, 1) := by decide +kernel
theorem dX11_book_6 : decode cX11_book 6 = .ok (.if_icmp .eq 7, 3) := by decide +kernel
theorem dX11_book_9 : decode cX11_book 9 = .ok (.sipush (-1000), 3) := by decide +kernel
theorem dX11_book_12 : decode cX11_book 12 = .ok (.ireturn, 1) := by decide +kernel
theorem dX11_book_13 : decode cX11_book 13 = .ok (.aload_n 0, 1) := by decide +kernel
theorem dX11_book_14 : decode cX11_book 14 = .ok (.getfield 49, 3) := by decide +kernel
theorem dX11_book_17 : decode cX11_book 17 = .ok (.aload_n 0, 1) := by decide +kernel
theorem dX11_book_18 : decode cX11_book 18 = .ok (.getfield 19, 3) := by decide +kernel
theorem dX11_book_21 : decode cX11_book 21 = .ok (.invokevirtual 337, 3) := by decide +kernel
theorem dX11_book_24 : decode cX11_book 24 = .ok (.aload_n 0, 1) := by decide +kernel
theorem dX11_book_25 : decode cX11_book 25 = .ok (.getfield 10, 3) := by decide +kernel
theorem dX11_book_28 : decode cX11_book 28 = .ok (.iconst 0, 1) := by decide +kernel
theorem dX11_book_29 : decode cX11_book 29 = .ok (.putfield 102, 3) := by decide +kernel
theorem dX11_book_32 : decode cX11_book 32 = .ok (.aload_n 0, 1) := by decide +kernel
theorem dX11_book_33 : decode cX11_book 33 = .ok (.getfield 10, 3) := by decide +kernel
theorem dX11_book_36 : decode cX11_book 36 = .ok (.invokevirtual 114, 3) := by decide +kernel
theorem dX11_book_39 : decode cX11_book 39 = .ok (.ifCond .eq 14, 3) := by decide +kernel
theorem dX11_book_53 : decode cX11_book 53 = .ok (.aload_n 0, 1) := by decide +kernel
theorem dX11_book_54 : decode cX11_book 54 = .ok (.getfield 67, 3) := by decide +kernel
theorem dX11_book_57 : decode cX11_book 57 = .ok (.aload_n 0, 1) := by decide +kernel
theorem dX11_book_58 : decode cX11_book 58 = .ok (.getfield 26, 3) := by decide +kernel
theorem dX11_book_61 : decode cX11_book 61 = .ok (.invokevirtual 335, 3) := by decide +kernel
theorem dX11_book_64 : decode cX11_book 64 = .ok (.aload_n 0, 1) := by decide +kernel
theorem dX11_book_65 : decode cX11_book 65 = .ok (.invokevirtual 339, 3) := by decide +kernel
theorem dX11_liveBook_0 : decode cX11_liveBook 0 = .ok (.iconst 0, 1) := by decide +kernel
theorem dX11_liveBook_1 : decode cX11_liveBook 1 = .ok (.istore_n 1, 1) := by decide +kernel
theorem dX11_liveBook_2 : decode cX11_liveBook 2 = .ok (.iconst 0, 1) := by decide +kernel
theorem dX11_liveBook_3 : decode cX11_liveBook 3 = .ok (.istore_n 2, 1) := by decide +kernel
theorem dX11_liveBook_4 : decode cX11_liveBook 4 = .ok (.iload_n 1, 1) := by decide +kernel
theorem dX11_liveBook_5 : decode cX11_liveBook 5 = .ok (.aload_n 0, 1) := by decide +kernel
theorem dX11_liveBook_6 : decode cX11_liveBook 6 = .ok (.getfield 49, 3) := by decide +kernel
theorem dX11_liveBook_9 : decode cX11_liveBook 9 = .ok (.getfield 342, 3) := by decide +kernel
theorem dX11_liveBook_12 : decode cX11_liveBook 12 = .ok (.if_icmp .ge 86, 3) := by decide +kernel
theorem dX11_liveBook_15 : decode cX11_liveBook 15 = .ok (.aload_n 0, 1) := by decide +kernel
theorem dX11_liveBook_16 : decode cX11_liveBook 16 = .ok (.getfield 67, 3) := by decide +kernel
theorem dX11_liveBook_19 : decode cX11_liveBook 19 = .ok (.aload_n 0, 1) := by decide +kernel
theorem dX11_liveBook_20 : decode cX11_liveBook 20 = .ok (.getfield 49, 3) := by decide +kernel
theorem dX11_liveBook_23 : decode cX11_liveBook 23 = .ok (.getfield 387, 3) := by decide +kernel
theorem dX11_liveBook_26 : decode cX11_liveBook 26 = .ok (.iload_n 1, 1) := by decide +kernel
theorem dX11_liveBook_27 : decode cX11_liveBook 27 = .ok (.iaload, 1) := by decide +kernel
theorem dX11_liveBook_28 : decode cX11_liveBook 28 = .ok (.aload_n 0, 1) := by decide +kernel
theorem dX11_liveBook_29 : decode cX11_liveBook 29 = .ok (.getfield 49, 3) := by decide +kernel
theorem dX11_liveBook_32 : decode cX11_liveBook 32 = .ok (.getfield 390, 3) := by decide +kernel
theorem dX11_liveBook_35 : decode cX11_liveBook 35 = .ok (.iload_n 1, 1) := by decide +kernel
theorem dX11_liveBook_36 : decode cX11_liveBook 36 = .ok (.iaload, 1) := by decide +kernel
theorem dX11_liveBook_37 : decode cX11_liveBook 37 = .ok (.invokevirtual 381, 3) := by decide +kernel
theorem dX11_told_0 : decode cX11_told 0 = .ok (.iload_n 1, 1) := by decide +kernel
theorem dX11_told_1 : decode cX11_told 1 = .ok (.ifCond .lt 8, 3) := by decide +kernel
theorem dX11_told_4 : decode cX11_told 4 = .ok (.iload_n 1, 1) := by decide +kernel
theorem dX11_told_5 : decode cX11_told 5 = .ok (.iconst 4, 1) := by decide +kernel
theorem dX11_told_6 : decode cX11_told 6 = .ok (.if_icmp .lt 7, 3) := by decide +kernel
theorem dX11_told_9 : decode cX11_told 9 = .ok (.iconst (-1), 1) := by decide +kernel
theorem dX11_told_10 : decode cX11_told 10 = .ok (.goto 9, 3) := by decide +kernel
theorem dX11_told_13 : decode cX11_told 13 = .ok (.aload_n 0, 1) := by decide +kernel
theorem dX11_told_14 : decode cX11_told 14 = .ok (.getfield 87, 3) := by decide +kernel
theorem dX11_told_17 : decode cX11_told 17 = .ok (.iload_n 1, 1) := by decide +kernel
theorem dX11_told_18 : decode cX11_told 18 = .ok (.iaload, 1) := by decide +kernel
theorem dX11_told_19 : decode cX11_told 19 = .ok (.ireturn, 1) := by decide +kernel
set_option maxRecDepth 20000 in
theorem ggX11_book_X1_readLines : GoodIn wsX11_book wsX1_readLines := goodIn_r _ [14, 15, 16, 17, 18, 19, 20, 21, 22, 23, 24, 25, 26, 27, 28, 29, 30, 31, 32, 33, 34, 35, 36, 37, 38, 39, 40, 41, 42, 43, 44, 45, 46, 47, 48, 49, 50, 51, 52, 53, 54, 55, 56, 57, 58, 13, 59, 60, 61, 62, 63, 64, 65, 66, 67, 68, 69, 70, 71, 72, 73, 74, 75, 76, 77, 78, 79, 80, 81, 82, 83, 84, 85, 86, 87, 88, 89, 90, 91, 92, 93, 94, 95, 96, 97, 98, 99, 100, 101, 102, 103, 104, 105, 106, 107, 108, 109, 110, 111, 112, 113, 114, 115, 116, 117, 118, 119, 120, 121, 122, 123, 124, 125, 126, 127, 128, 129, 130, 131, 132, 257, 258, 259, 260, 247, 248, 249, 250, 251, 252, 253, 254, 255, 256, 261, 262, 263, 264, 265, 266, 267, 268, 269, 270, 271, 272, 273, 274, 275, 276] rfl (by decide +kernel)
set_option maxRecDepth 20000 in
theorem gX11_book_X1_readLines : GoodIn wsX11_book (wsV RX11 337 RX1 yX1_readLines wsX1_readLines) := goodIn_app (goodIn_of _ (by decide +kernel)) ggX11_book_X1_readLines
set_option maxRecDepth 20000 in
theorem ggX11_book_X6_isBroken : GoodIn wsX11_book wsX6_isBroken := goodIn_r _ [42, 24, 247, 248, 249, 250, 251, 252, 253, 254, 255, 256] rfl (by decide +kernel)
set_option maxRecDepth 20000 in
theorem gX11_book_X6_isBroken : GoodIn wsX11_book (wsV RX11 114 RX6 yX6_isBroken wsX6_isBroken) := goodIn_app (goodIn_of _ (by decide +kernel)) ggX11_book_X6_isBroken
set_option maxRecDepth 20000 in
theorem ggX11_book_X9_copyFrom : GoodIn wsX11_book wsX9_copyFrom := goodIn_r _ [138, 139, 140, 141, 142, 143, 144, 145, 146, 147, 148, 149, 150, 151, 152, 153, 277, 278, 279, 280, 281, 282, 283, 284, 285, 286, 287] rfl (by decide +kernel)
set_option maxRecDepth 20000 in
theorem gX11_book_X9_copyFrom : GoodIn wsX11_book (wsV RX11 335 RX9 yX9_copyFrom wsX9_copyFrom) := goodIn_app (goodIn_of _ (by decide +kernel)) ggX11_book_X9_copyFrom
set_option maxHeartbeats 4000000 in
set_option maxRecDepth 100000 in
theorem s_X11_told (l : Launch) (D : va_G) (ca : Nat → ClassId) (sz : Nat) (h0 : Nat) (a1 : Int32) (h0_tape : Nat) (h0_law : Nat) (h0_standing : Nat) (h0_saying : Nat) (h0_courtReader : Nat) (h0_bookReader : Nat) (h0_sentenceReader : Nat) (h0_bench : Nat) (h0_whatIf : Nat) (h0_history : Nat) (h0_images : Nat) (h0_latest : Nat) (h0_latestBook : Nat) (h0_latestRoll : Nat) (h0_rollLength : Int32) (F_h0_latestBook : Nat → Int32) (i_h0_rollLength : rg 0 40 h0_rollLength) : oMet l yX11_told wsX11_told ({ frames := 0, cells := 0, slots := 0, locals := 0 } : Room) [.ref h0, .int a1] D ca sz [(h0, .inr (10, [.ref h0_tape, .ref h0_law, .ref h0_standing, .ref h0_saying, .ref h0_courtReader, .ref h0_bookReader, .ref h0_sentenceReader, .ref h0_bench, .ref h0_whatIf, .ref h0_history, .ref h0_images, .ref h0_latest, .ref h0_latestBook, .ref h0_latestRoll, .int h0_rollLength])), (aI ca h0_latestBook 4 F_h0_latestBook)] (oQi D (fun (r : Int32) (u : Unit) => True) (fun (u : Unit) => [(h0, .inr (10, [.ref h0_tape, .ref h0_law, .ref h0_standing, .ref h0_saying, .ref h0_courtReader, .ref h0_bookReader, .ref h0_sentenceReader, .ref h0_bench, .ref h0_whatIf, .ref h0_history, .ref h0_images, .ref h0_latest, .ref h0_latestBook, .ref h0_latestRoll, .int h0_rollLength])), (aI ca h0_latestBook 4 F_h0_latestBook)])) 0 0 := by
  refine oM (cc := cX11_told) (maxL := 2) (ret := (some .int)) (by decide) rfl (Nat.le_of_ble_eq_true rfl) [(0, .ref h0), (1, .int a1)] rfl ?_
  intro p e s m below meth c A H locs ls hx hb hr hml hts hown hlocks hin hK hP hD hA hS hl
  have hown : s.vm.findClass RX11 = some m.cls := hown
  have k1 := hts (.fieldLink RX11 87 "LidCourt" "latestBook" "[I") (by decide +kernel)
  have k2 : ∀ w ∈ wsX110, w ∈ wsX11_told := fun _ h => List.mem_cons_of_mem _ (List.mem_append_right _ h)
  refine lv_iload_n hx hb dX11_told_0 rfl (lv_at hl 1 rfl) ?_
  refine lv_if_lt (tgt := 9) hx hb dX11_told_1 (by decide) (fun c_12 => ?_) (fun c_12 => ?_)
  · skip
    have o_13 : rl 1 a1 0 := rl_lt c_12
    have h_14 : rg (-2147483648) (-1) a1 := rl_x o_13 (rga a1) (⟨by decide, by decide⟩ : rg 0 0 (0 : Int32)) (by decide) (by decide)
    refine lv_iconst (v := (-1)) hx hb dX11_told_9 (by decide) ?_
    refine lv_goto (tgt := 19) hx hb dX11_told_10 (by decide) ?_
    exact oE_i hx hb hr rfl hlocks hP hD hS () [0, 1] rfl (by decide) trivial (Nat.le_of_ble_eq_true rfl) (Nat.le_of_ble_eq_true rfl) dX11_told_19
  · skip
    have o_15 : rl 0 0 a1 := rl_nlt c_12
    have h_16 : rg 0 2147483647 a1 := rl_y o_15 (⟨by decide, by decide⟩ : rg 0 0 (0 : Int32)) (rga a1) (by decide) (by decide)
    refine lv_iload_n hx hb dX11_told_4 rfl (lv_at hl 1 rfl) ?_
    refine lv_iconst (v := 4) hx hb dX11_told_5 (by decide) ?_
    refine lv_icmp_lt (tgt := 13) hx hb dX11_told_6 (by decide) (fun c_17 => ?_) (fun c_17 => ?_)
    · skip
      have o_18 : rl 1 a1 4 := rl_lt c_17
      have h_19 : rg 0 3 a1 := rl_x o_18 h_16 (⟨by decide, by decide⟩ : rg 4 4 (4 : Int32)) (by decide) (by decide)
      refine lv_aload_n hx hb dX11_told_13 rfl (lv_at hl 0 rfl) ?_
      refine va_get (D := D) (ci := 10) (v := .ref h0_latestBook) (C := RX11) (T := TX11) (N := 15) hx hb hts k2 hown hK.1 hP 0 rfl rfl 12 (by decide) k1 (fun _ h9 => h9) rfl dX11_told_14 ?_
      refine lv_iload_n hx hb dX11_told_17 rfl (lv_at hl 1 rfl) ?_
      refine va_iald hx hb hK.1 hP 1 0 rfl rfl (rg_in h_19 (by decide) (by decide)) dX11_told_18 ?_
      refine lv_topi (fun x_20 ex_20 => ?_)
      exact oE_i hx hb hr rfl hlocks hP hD hS () [0, 1] rfl (by decide) trivial (Nat.le_of_ble_eq_true rfl) (Nat.le_of_ble_eq_true rfl) dX11_told_19
    · skip
      have o_21 : rl 0 4 a1 := rl_nlt c_17
      have h_22 : rg 4 2147483647 a1 := rl_y o_21 (⟨by decide, by decide⟩ : rg 4 4 (4 : Int32)) h_16 (by decide) (by decide)
      refine lv_iconst (v := (-1)) hx hb dX11_told_9 (by decide) ?_
      refine lv_goto (tgt := 19) hx hb dX11_told_10 (by decide) ?_
      exact oE_i hx hb hr rfl hlocks hP hD hS () [0, 1] rfl (by decide) trivial (Nat.le_of_ble_eq_true rfl) (Nat.le_of_ble_eq_true rfl) dX11_told_19
theorem dX7_empty_0 : decode cX7_empty 0 = .ok (.aload_n 0, 1) := by decide +kernel
theorem dX7_empty_1 : decode cX7_empty 1 = .ok (.iconst 0, 1) := by decide +kernel
theorem dX7_empty_2 : decode cX7_empty 2 = .ok (.putfield 27, 3) := by decide +kernel
theorem dX7_empty_5 : decode cX7_empty 5 = .ok (.aload_n 0, 1) := by decide +kernel
theorem dX7_empty_6 : decode cX7_empty 6 = .ok (.iconst 0, 1) := by decide +kernel
theorem dX7_empty_7 : decode cX7_empty 7 = .ok (.putfield 31, 3) := by decide +kernel
theorem dX7_empty_10 : decode cX7_empty 10 = .ok (.return_, 1) := by decide +kernel
set_option maxHeartbeats 4000000 in
set_option maxRecDepth 100000 in
theorem s_X7_empty (l : Launch) (D : va_G) (ca : Nat → ClassId) (sz : Nat) (h0 : Nat) (h0_present : Int32) (h0_steps : Int32) (h0_word : Nat) (h0_first : Nat) (h0_second : Nat) (h0_sets : Nat) (i_h0_present : rg 0 1 h0_present) (i_h0_steps : rg 0 40 h0_steps) : oMet l yX7_empty wsX7_empty ({ frames := 0, cells := 0, slots := 0, locals := 0 } : Room) [.ref h0] D ca sz [(h0, .inr (7, [.int h0_present, .int h0_steps, .ref h0_word, .ref h0_first, .ref h0_second, .ref h0_sets]))] (oQv D (fun (u : Unit) => True) (fun (u : Unit) => [(h0, .inr (7, [.int 0, .int 0, .ref h0_word, .ref h0_first, .ref h0_second, .ref h0_sets]))])) 0 0 := by
  refine oM (cc := cX7_empty) (maxL := 1) (ret := none) (by decide) rfl (Nat.le_of_ble_eq_true rfl) [(0, .ref h0)] rfl ?_
  intro p e s m below meth c A H locs ls hx hb hr hml hts hown hlocks hin hK hP hD hA hS hl
  have hown : s.vm.findClass RX7 = some m.cls := hown
  have k1 := hts (.fieldLink RX7 27 "LidCourt$Saying" "present" "Z") (by decide +kernel)
  have k2 : ∀ w ∈ wsX70, w ∈ wsX7_empty := fun _ h => List.mem_cons_of_mem _ (List.mem_append_right _ h)
  have k3 := hts (.fieldLink RX7 31 "LidCourt$Saying" "steps" "I") (by decide +kernel)
  refine lv_aload_n hx hb dX7_empty_0 rfl (lv_at hl 0 rfl) ?_
  refine lv_iconst (v := 0) hx hb dX7_empty_1 (by decide) ?_
  refine va_put (D := D) (ci := 7) (v := .int 0) (ty := .boolean) (C := RX7) (T := TX7) (N := 6) hx hb hts k2 tyX7 tyX7_ok nmX7 hown hK.1 hP hD hS 0 rfl rfl 0 (by decide) k1 (fun _ h9 => h9) rfl (by decide +kernel) (by decide) rfl (Nat.le_of_ble_eq_true rfl) dX7_empty_2 (fun H locs hP hD hS => ?_)
  have hP : va_P D vwCl [(h0, .inr (7, [.int 0, .int h0_steps, .ref h0_word, .ref h0_first, .ref h0_second, .ref h0_sets]))] H := hP
  have hD : va_D A [(h0, .inr (7, [.int 0, .int h0_steps, .ref h0_word, .ref h0_first, .ref h0_second, .ref h0_sets]))] := hD
  refine lv_aload_n hx hb dX7_empty_5 rfl (lv_at hl 0 rfl) ?_
  refine lv_iconst (v := 0) hx hb dX7_empty_6 (by decide) ?_
  refine va_put (D := D) (ci := 7) (v := .int 0) (ty := .int) (C := RX7) (T := TX7) (N := 6) hx hb hts k2 tyX7 tyX7_ok nmX7 hown hK.1 hP hD hS 0 rfl rfl 1 (by decide) k3 (fun _ h9 => h9) rfl (by decide +kernel) rfl rfl (Nat.le_of_ble_eq_true rfl) dX7_empty_7 (fun H locs hP hD hS => ?_)
  have hP : va_P D vwCl [(h0, .inr (7, [.int 0, .int 0, .ref h0_word, .ref h0_first, .ref h0_second, .ref h0_sets]))] H := hP
  have hD : va_D A [(h0, .inr (7, [.int 0, .int 0, .ref h0_word, .ref h0_first, .ref h0_second, .ref h0_sets]))] := hD
  exact oE_v hx hb hr hlocks hP hD hS () [0] rfl (by decide) trivial (Nat.le_of_ble_eq_true rfl) (Nat.le_of_ble_eq_true rfl) dX7_empty_10
theorem dX8_begin_0 : decode cX8_begin 0 = .ok (.aload_n 0, 1) := by decide +kernel
theorem dX8_begin_1 : decode cX8_begin 1 = .ok (.getfield 12, 3) := by decide +kernel
theorem dX8_begin_4 : decode cX8_begin 4 = .ok (.invokevirtual 22, 3) := by decide +kernel
theorem dX8_begin_7 : decode cX8_begin 7 = .ok (.aload_n 0, 1) := by decide +kernel
theorem dX8_begin_8 : decode cX8_begin 8 = .ok (.iconst 0, 1) := by decide +kernel
theorem dX8_begin_9 : decode cX8_begin 9 = .ok (.putfield 25, 3) := by decide +kernel
theorem dX8_begin_12 : decode cX8_begin 12 = .ok (.aload_n 0, 1) := by decide +kernel
theorem dX8_begin_13 : decode cX8_begin 13 = .ok (.getfield 18, 3) := by decide +kernel
theorem dX8_begin_16 : decode cX8_begin 16 = .ok (.sipush 200, 3) := by decide +kernel
theorem dX8_begin_19 : decode cX8_begin 19 = .ok (.invokevirtual 29, 3) := by decide +kernel
theorem dX8_begin_22 : decode cX8_begin 22 = .ok (.return_, 1) := by decide +kernel
set_option maxRecDepth 20000 in
theorem ggX8_begin_X7_empty : GoodIn wsX8_begin wsX7_empty := goodIn_r _ [8, 9, 10, 49, 50, 51, 52, 53, 54] rfl (by decide +kernel)
set_option maxRecDepth 20000 in
theorem gX8_begin_X7_empty : GoodIn wsX8_begin (wsV RX8 22 RX7 yX7_empty wsX7_empty) := goodIn_app (goodIn_of _ (by decide +kernel)) ggX8_begin_X7_empty
set_option maxRecDepth 20000 in
theorem ggX8_begin_X6_begin : GoodIn wsX8_begin wsX6_begin := goodIn_r _ [15, 16, 17, 18, 19, 20, 21, 22, 14, 23, 24, 25, 26, 27, 28, 29, 30, 31, 32, 33, 34, 35, 36, 37, 38, 39, 40, 41, 42, 43, 44, 45, 55, 56, 57, 58, 59, 60, 61, 62, 63, 64] rfl (by decide +kernel)
set_option maxRecDepth 20000 in
theorem gX8_begin_X6_begin : GoodIn wsX8_begin (wsV RX8 29 RX6 yX6_begin wsX6_begin) := goodIn_app (goodIn_of _ (by decide +kernel)) ggX8_begin_X6_begin
set_option maxHeartbeats 4000000 in
set_option maxRecDepth 100000 in
theorem s_X8_begin (l : Launch) (D : va_G) (ca : Nat → ClassId) (sz : Nat) (h0 : Nat) (h0_draft : Nat) (h0_ones : Int32) (h0_reader : Nat) (h0_draft_present : Int32) (h0_draft_steps : Int32) (h0_draft_word : Nat) (h0_draft_first : Nat) (h0_draft_second : Nat) (h0_draft_sets : Nat) (h0_reader_bytes : Nat) (h0_reader_length : Int32) (h0_reader_faultKind : Int32) (h0_reader_faultAt : Int32) (h0_reader_letters : Int64) (h0_reader_mostBytes : Int32) (h0_reader_behind : Int32) (h0_reader_at : Int32) (h0_reader_kind : Int32) (h0_reader_number : Int32) (F_h0_reader_bytes : Nat → Int32) (i_h0_draft_present : rg 0 1 h0_draft_present) (i_h0_draft_steps : rg 0 40 h0_draft_steps) (i_h0_reader_length : rg 0 940 h0_reader_length) (i_h0_reader_faultKind : rg 0 4 h0_reader_faultKind) (i_h0_reader_behind : rg 0 940 h0_reader_behind) (s_h0_reader_bytes_0 : sg 0 940 0 255 F_h0_reader_bytes) : oMet l yX8_begin wsX8_begin ({ frames := 3, cells := 0, slots := 0, locals := 65 } : Room) [.ref h0] D ca sz [(h0, .inr (8, [.ref h0_draft, .int h0_ones, .ref h0_reader])), (h0_draft, .inr (7, [.int h0_draft_present, .int h0_draft_steps, .ref h0_draft_word, .ref h0_draft_first, .ref h0_draft_second, .ref h0_draft_sets])), (h0_reader, .inr (6, [.ref h0_reader_bytes, .int h0_reader_length, .int h0_reader_faultKind, .int h0_reader_faultAt, .long h0_reader_letters, .int h0_reader_mostBytes, .int h0_reader_behind, .int h0_reader_at, .int h0_reader_kind, .int h0_reader_number])), (aI ca h0_reader_bytes 940 F_h0_reader_bytes)] (oQv D (fun (u : Int64 × Int32 × Int32 × Int32 × Int32) => (rg 0 940 u.2.1)) (fun (u : Int64 × Int32 × Int32 × Int32 × Int32) => [(h0, .inr (8, [.ref h0_draft, .int 0, .ref h0_reader])), (h0_draft, .inr (7, [.int 0, .int 0, .ref h0_draft_word, .ref h0_draft_first, .ref h0_draft_second, .ref h0_draft_sets])), (h0_reader, .inr (6, [.ref h0_reader_bytes, .int h0_reader_length, .int 0, .int 0, .long u.1, .int 200, .int u.2.1, .int u.2.2.1, .int u.2.2.2.1, .int u.2.2.2.2])), (aI ca h0_reader_bytes 940 F_h0_reader_bytes)])) 0 0 := by
  refine oM (cc := cX8_begin) (maxL := 1) (ret := none) (by decide) rfl (Nat.le_of_ble_eq_true rfl) [(0, .ref h0)] rfl ?_
  intro p e s m below meth c A H locs ls hx hb hr hml hts hown hlocks hin hK hP hD hA hS hl
  have hown : s.vm.findClass RX8 = some m.cls := hown
  have k1 := hts (.fieldLink RX8 12 "LidCourt$SentenceReader" "draft" "LLidCourt$Saying;") (by decide +kernel)
  have k2 : ∀ w ∈ wsX80, w ∈ wsX8_begin := fun _ h => List.mem_cons_of_mem _ (List.mem_append_left _ (List.mem_append_left _ (List.mem_append_right _ h)))
  have k3 := hts (.fieldLink RX8 25 "LidCourt$SentenceReader" "ones" "I") (by decide +kernel)
  have k4 := hts (.fieldLink RX8 18 "LidCourt$SentenceReader" "reader" "LLidCourt$Reader;") (by decide +kernel)
  refine lv_aload_n hx hb dX8_begin_0 rfl (lv_at hl 0 rfl) ?_
  refine va_get (D := D) (ci := 8) (v := .ref h0_draft) (C := RX8) (T := TX8) (N := 3) hx hb hts k2 hown hK.1 hP 0 rfl rfl 0 (by decide) k1 (fun _ h9 => h9) rfl dX8_begin_1 ?_
  refine oC_v (Wc := [(h0_draft, .inr (7, [.int h0_draft_present, .int h0_draft_steps, .ref h0_draft_word, .ref h0_draft_first, .ref h0_draft_second, .ref h0_draft_sets]))]) (Wr := [(h0, .inr (8, [.ref h0_draft, .int h0_ones, .ref h0_reader])), (h0_reader, .inr (6, [.ref h0_reader_bytes, .int h0_reader_length, .int h0_reader_faultKind, .int h0_reader_faultAt, .long h0_reader_letters, .int h0_reader_mostBytes, .int h0_reader_behind, .int h0_reader_at, .int h0_reader_kind, .int h0_reader_number])), (aI ca h0_reader_bytes 940 F_h0_reader_bytes)]) (va_runV (As := []) (rest := []) ⟨hx, hb, hml, hown, hts⟩ (s_X7_empty l D ca H.size h0_draft h0_draft_present h0_draft_steps h0_draft_word h0_draft_first h0_draft_second h0_draft_sets i_h0_draft_present i_h0_draft_steps) (cwV 0 hts gX8_begin_X7_empty rfl rfl rfl (by decide +kernel) ⟨Nat.le_of_ble_eq_true rfl, Nat.le_of_ble_eq_true rfl⟩) (oPV (C := RX7) hK hP hD [1] rfl (by decide) 0 rfl (ci := 7) rfl rfl) rfl rfl hl.1 rfl (lv_room (Nat.le_of_ble_eq_true rfl)) dX8_begin_4 ⟨Nat.le_of_ble_eq_true rfl, Nat.le_of_ble_eq_true rfl⟩) hP hD hS hA [1] [0, 2, 3] rfl rfl (by decide) (by decide) (fun u H locs w_12 hP hD hS => ?_)
  obtain ⟨⟩ := u
  have hP : va_P D vwCl [(h0, .inr (8, [.ref h0_draft, .int h0_ones, .ref h0_reader])), (h0_reader, .inr (6, [.ref h0_reader_bytes, .int h0_reader_length, .int h0_reader_faultKind, .int h0_reader_faultAt, .long h0_reader_letters, .int h0_reader_mostBytes, .int h0_reader_behind, .int h0_reader_at, .int h0_reader_kind, .int h0_reader_number])), (aI ca h0_reader_bytes 940 F_h0_reader_bytes), (h0_draft, .inr (7, [.int 0, .int 0, .ref h0_draft_word, .ref h0_draft_first, .ref h0_draft_second, .ref h0_draft_sets]))] H := hP
  have hD : va_D A [(h0, .inr (8, [.ref h0_draft, .int h0_ones, .ref h0_reader])), (h0_reader, .inr (6, [.ref h0_reader_bytes, .int h0_reader_length, .int h0_reader_faultKind, .int h0_reader_faultAt, .long h0_reader_letters, .int h0_reader_mostBytes, .int h0_reader_behind, .int h0_reader_at, .int h0_reader_kind, .int h0_reader_number])), (aI ca h0_reader_bytes 940 F_h0_reader_bytes), (h0_draft, .inr (7, [.int 0, .int 0, .ref h0_draft_word, .ref h0_draft_first, .ref h0_draft_second, .ref h0_draft_sets]))] := hD
  try dsimp only at w_12
  refine lv_aload_n hx hb dX8_begin_7 rfl (lv_at hl 0 rfl) ?_
  refine lv_iconst (v := 0) hx hb dX8_begin_8 (by decide) ?_
  refine va_put (D := D) (ci := 8) (v := .int 0) (ty := .int) (C := RX8) (T := TX8) (N := 3) hx hb hts k2 tyX8 tyX8_ok nmX8 hown hK.1 hP hD hS 0 rfl rfl 1 (by decide) k3 (fun _ h9 => h9) rfl (by decide +kernel) rfl rfl (Nat.le_of_ble_eq_true rfl) dX8_begin_9 (fun H locs hP hD hS => ?_)
  have hP : va_P D vwCl [(h0, .inr (8, [.ref h0_draft, .int 0, .ref h0_reader])), (h0_reader, .inr (6, [.ref h0_reader_bytes, .int h0_reader_length, .int h0_reader_faultKind, .int h0_reader_faultAt, .long h0_reader_letters, .int h0_reader_mostBytes, .int h0_reader_behind, .int h0_reader_at, .int h0_reader_kind, .int h0_reader_number])), (aI ca h0_reader_bytes 940 F_h0_reader_bytes), (h0_draft, .inr (7, [.int 0, .int 0, .ref h0_draft_word, .ref h0_draft_first, .ref h0_draft_second, .ref h0_draft_sets]))] H := hP
  have hD : va_D A [(h0, .inr (8, [.ref h0_draft, .int 0, .ref h0_reader])), (h0_reader, .inr (6, [.ref h0_reader_bytes, .int h0_reader_length, .int h0_reader_faultKind, .int h0_reader_faultAt, .long h0_reader_letters, .int h0_reader_mostBytes, .int h0_reader_behind, .int h0_reader_at, .int h0_reader_kind, .int h0_reader_number])), (aI ca h0_reader_bytes 940 F_h0_reader_bytes), (h0_draft, .inr (7, [.int 0, .int 0, .ref h0_draft_word, .ref h0_draft_first, .ref h0_draft_second, .ref h0_draft_sets]))] := hD
  refine lv_aload_n hx hb dX8_begin_12 rfl (lv_at hl 0 rfl) ?_
  refine va_get (D := D) (ci := 8) (v := .ref h0_reader) (C := RX8) (T := TX8) (N := 3) hx hb hts k2 hown hK.1 hP 0 rfl rfl 2 (by decide) k4 (fun _ h9 => h9) rfl dX8_begin_13 ?_
  refine lv_sipush (v := 200) hx hb dX8_begin_16 (by decide) ?_
  refine oC_v (Wc := [(h0_reader, .inr (6, [.ref h0_reader_bytes, .int h0_reader_length, .int h0_reader_faultKind, .int h0_reader_faultAt, .long h0_reader_letters, .int h0_reader_mostBytes, .int h0_reader_behind, .int h0_reader_at, .int h0_reader_kind, .int h0_reader_number])), (aI ca h0_reader_bytes 940 F_h0_reader_bytes)]) (Wr := [(h0, .inr (8, [.ref h0_draft, .int 0, .ref h0_reader])), (h0_draft, .inr (7, [.int 0, .int 0, .ref h0_draft_word, .ref h0_draft_first, .ref h0_draft_second, .ref h0_draft_sets]))]) (va_runV (As := [.int 200]) (rest := []) ⟨hx, hb, hml, hown, hts⟩ (s_X6_begin l D ca H.size h0_reader 200 h0_reader_bytes h0_reader_length h0_reader_faultKind h0_reader_faultAt h0_reader_letters h0_reader_mostBytes h0_reader_behind h0_reader_at h0_reader_kind h0_reader_number F_h0_reader_bytes i_h0_reader_length i_h0_reader_faultKind i_h0_reader_behind s_h0_reader_bytes_0) (cwV 1 hts gX8_begin_X6_begin rfl rfl rfl (by decide +kernel) ⟨Nat.le_of_ble_eq_true rfl, Nat.le_of_ble_eq_true rfl⟩) (oPV (C := RX6) hK hP hD [1, 2] rfl (by decide) 0 rfl (ci := 6) rfl rfl) rfl rfl hl.1 rfl (lv_room (Nat.le_of_ble_eq_true rfl)) dX8_begin_19 ⟨Nat.le_of_ble_eq_true rfl, Nat.le_of_ble_eq_true rfl⟩) hP hD hS hA [1, 2] [0, 3] rfl rfl (by decide) (by decide) (fun u H locs w_14 hP hD hS => ?_)
  obtain ⟨u_15, u_16, u_17, u_18, u_19⟩ := u
  have hP : va_P D vwCl [(h0, .inr (8, [.ref h0_draft, .int 0, .ref h0_reader])), (h0_draft, .inr (7, [.int 0, .int 0, .ref h0_draft_word, .ref h0_draft_first, .ref h0_draft_second, .ref h0_draft_sets])), (h0_reader, .inr (6, [.ref h0_reader_bytes, .int h0_reader_length, .int 0, .int 0, .long u_15, .int 200, .int u_16, .int u_17, .int u_18, .int u_19])), (aI ca h0_reader_bytes 940 F_h0_reader_bytes)] H := hP
  have hD : va_D A [(h0, .inr (8, [.ref h0_draft, .int 0, .ref h0_reader])), (h0_draft, .inr (7, [.int 0, .int 0, .ref h0_draft_word, .ref h0_draft_first, .ref h0_draft_second, .ref h0_draft_sets])), (h0_reader, .inr (6, [.ref h0_reader_bytes, .int h0_reader_length, .int 0, .int 0, .long u_15, .int 200, .int u_16, .int u_17, .int u_18, .int u_19])), (aI ca h0_reader_bytes 940 F_h0_reader_bytes)] := hD
  try dsimp only at w_14
  have h_20 := w_14
  exact oE_v hx hb hr hlocks hP hD hS (u_15, u_16, u_17, u_18, u_19) [0, 1, 2, 3] rfl (by decide) h_20 (Nat.le_of_ble_eq_true rfl) (Nat.le_of_ble_eq_true rfl) dX8_begin_22
theorem dX8_isMeasure_0 : decode cX8_isMeasure 0 = .ok (.aload_n 0, 1) := by decide +kernel
theorem dX8_isMeasure_1 : decode cX8_isMeasure 1 = .ok (.getstatic 119, 3) := by decide +kernel
theorem dX8_isMeasure_4 : decode cX8_isMeasure 4 = .ok (.if_acmp .eq 24, 3) := by decide +kernel
theorem dX8_isMeasure_7 : decode cX8_isMeasure 7 = .ok (.aload_n 0, 1) := by decide +kernel
theorem dX8_isMeasure_8 : decode cX8_isMeasure 8 = .ok (.getstatic 122, 3) := by decide +kernel
theorem dX8_isMeasure_11 : decode cX8_isMeasure 11 = .ok (.if_acmp .eq 17, 3) := by decide +kernel
theorem dX8_isMeasure_14 : decode cX8_isMeasure 14 = .ok (.aload_n 0, 1) := by decide +kernel
theorem dX8_isMeasure_15 : decode cX8_isMeasure 15 = .ok (.getstatic 125, 3) := by decide +kernel
theorem dX8_isMeasure_18 : decode cX8_isMeasure 18 = .ok (.if_acmp .eq 10, 3) := by decide +kernel
theorem dX8_isMeasure_21 : decode cX8_isMeasure 21 = .ok (.aload_n 0, 1) := by decide +kernel
theorem dX8_isMeasure_22 : decode cX8_isMeasure 22 = .ok (.getstatic 128, 3) := by decide +kernel
theorem dX8_isMeasure_25 : decode cX8_isMeasure 25 = .ok (.if_acmp .ne 7, 3) := by decide +kernel
theorem dX8_isMeasure_28 : decode cX8_isMeasure 28 = .ok (.iconst 1, 1) := by decide +kernel
theorem dX8_isMeasure_29 : decode cX8_isMeasure 29 = .ok (.goto 4, 3) := by decide +kernel
theorem dX8_isMeasure_32 : decode cX8_isMeasure 32 = .ok (.iconst 0, 1) := by decide +kernel
theorem dX8_isMeasure_33 : decode cX8_isMeasure 33 = .ok (.ireturn, 1) := by decide +kernel
set_option maxHeartbeats 4000000 in
set_option maxRecDepth 100000 in
theorem s_X8_isMeasure (l : Launch) (D : va_G) (ca : Nat → ClassId) (ad : Nat → Nat) (wt : Nat) (sz : Nat) (kw1 : Nat) (hkw1 : kw1 < 26) : sMet l yX8_isMeasure wsX8_isMeasure ({ frames := 0, cells := 0, slots := 0, locals := 0 } : Room) [.ref (ad kw1)] D ca ad wt sz [] (oQi D (fun (r : Int32) (u : Unit) => ((r = 1)) ∨ ((r = 0))) (fun (u : Unit) => [])) 0 0 := by
  refine sM (cc := cX8_isMeasure) (maxL := 1) (ret := (some .boolean)) (by decide) rfl (Nat.le_of_ble_eq_true rfl) [(0, .ref (ad kw1))] rfl ?_
  intro p e s m below meth c A H locs ls hx hb hr hml hts hown hlocks hin hK hP hD hA hS hl hZ
  have hown : s.vm.findClass RX8 = some m.cls := hown
  have hE := hZ.2.2.2.2.2.1
  have k1 := hts (.fieldLink RX8 119 "LidCourt$Word" "PITCH" "LLidCourt$Word;") (by decide +kernel)
  have k2 := hts (.fieldLink RX8 122 "LidCourt$Word" "LENGTH" "LLidCourt$Word;") (by decide +kernel)
  have k3 := hts (.fieldLink RX8 125 "LidCourt$Word" "DENTS" "LLidCourt$Word;") (by decide +kernel)
  have k4 := hts (.fieldLink RX8 128 "LidCourt$Word" "NUMBER" "LLidCourt$Word;") (by decide +kernel)
  refine lv_aload_n hx hb dX8_isMeasure_0 rfl (lv_at hl 0 rfl) ?_
  refine va_gets (v := .ref (ad 22)) hx hb (hZw hZ 22 "PITCH" (by decide) (by decide)) hS hown k1 (fun _ h9 => h9) dX8_isMeasure_1 ?_
  refine lv_acmp_eq (rx := (some (ad kw1))) (ry := (some (ad 22))) (tgt := 28) hx hb dX8_isMeasure_4 (by decide) (fun c_5 => ?_) (fun c_5 => ?_)
  · skip
    refine lv_iconst (v := 1) hx hb dX8_isMeasure_28 (by decide) ?_
    refine lv_goto (tgt := 33) hx hb dX8_isMeasure_29 (by decide) ?_
    exact oE_i hx hb hr (by decide) hlocks hP hD hS () [] rfl (by decide) (Or.inl rfl) (Nat.le_of_ble_eq_true rfl) (Nat.le_of_ble_eq_true rfl) dX8_isMeasure_33
  · skip
    refine lv_aload_n hx hb dX8_isMeasure_7 rfl (lv_at hl 0 rfl) ?_
    refine va_gets (v := .ref (ad 23)) hx hb (hZw hZ 23 "LENGTH" (by decide) (by decide)) hS hown k2 (fun _ h9 => h9) dX8_isMeasure_8 ?_
    refine lv_acmp_eq (rx := (some (ad kw1))) (ry := (some (ad 23))) (tgt := 28) hx hb dX8_isMeasure_11 (by decide) (fun c_6 => ?_) (fun c_6 => ?_)
    · skip
      refine lv_iconst (v := 1) hx hb dX8_isMeasure_28 (by decide) ?_
      refine lv_goto (tgt := 33) hx hb dX8_isMeasure_29 (by decide) ?_
      exact oE_i hx hb hr (by decide) hlocks hP hD hS () [] rfl (by decide) (Or.inl rfl) (Nat.le_of_ble_eq_true rfl) (Nat.le_of_ble_eq_true rfl) dX8_isMeasure_33
    · skip
      refine lv_aload_n hx hb dX8_isMeasure_14 rfl (lv_at hl 0 rfl) ?_
      refine va_gets (v := .ref (ad 24)) hx hb (hZw hZ 24 "DENTS" (by decide) (by decide)) hS hown k3 (fun _ h9 => h9) dX8_isMeasure_15 ?_
      refine lv_acmp_eq (rx := (some (ad kw1))) (ry := (some (ad 24))) (tgt := 28) hx hb dX8_isMeasure_18 (by decide) (fun c_7 => ?_) (fun c_7 => ?_)
      · skip
        refine lv_iconst (v := 1) hx hb dX8_isMeasure_28 (by decide) ?_
        refine lv_goto (tgt := 33) hx hb dX8_isMeasure_29 (by decide) ?_
        exact oE_i hx hb hr (by decide) hlocks hP hD hS () [] rfl (by decide) (Or.inl rfl) (Nat.le_of_ble_eq_true rfl) (Nat.le_of_ble_eq_true rfl) dX8_isMeasure_33
      · skip
        refine lv_aload_n hx hb dX8_isMeasure_21 rfl (lv_at hl 0 rfl) ?_
        refine va_gets (v := .ref (ad 25)) hx hb (hZw hZ 25 "NUMBER" (by decide) (by decide)) hS hown k4 (fun _ h9 => h9) dX8_isMeasure_22 ?_
        refine lv_acmp_ne (rx := (some (ad kw1))) (ry := (some (ad 25))) (tgt := 32) hx hb dX8_isMeasure_25 (by decide) (fun c_8 => ?_) (fun c_8 => ?_)
        · skip
          refine lv_iconst (v := 0) hx hb dX8_isMeasure_32 (by decide) ?_
          exact oE_i hx hb hr (by decide) hlocks hP hD hS () [] rfl (by decide) (Or.inr (rfl)) (Nat.le_of_ble_eq_true rfl) (Nat.le_of_ble_eq_true rfl) dX8_isMeasure_33
        · skip
          refine lv_iconst (v := 1) hx hb dX8_isMeasure_28 (by decide) ?_
          refine lv_goto (tgt := 33) hx hb dX8_isMeasure_29 (by decide) ?_
          exact oE_i hx hb hr (by decide) hlocks hP hD hS () [] rfl (by decide) (Or.inl rfl) (Nat.le_of_ble_eq_true rfl) (Nat.le_of_ble_eq_true rfl) dX8_isMeasure_33
theorem dX8_isPlain_0 : decode cX8_isPlain 0 = .ok (.aload_n 0, 1) := by decide +kernel
theorem dX8_isPlain_1 : decode cX8_isPlain 1 = .ok (.getstatic 104, 3) := by decide +kernel
theorem dX8_isPlain_4 : decode cX8_isPlain 4 = .ok (.if_acmp .eq 31, 3) := by decide +kernel
theorem dX8_isPlain_7 : decode cX8_isPlain 7 = .ok (.aload_n 0, 1) := by decide +kernel
theorem dX8_isPlain_8 : decode cX8_isPlain 8 = .ok (.getstatic 107, 3) := by decide +kernel
theorem dX8_isPlain_11 : decode cX8_isPlain 11 = .ok (.if_acmp .eq 24, 3) := by decide +kernel
theorem dX8_isPlain_14 : decode cX8_isPlain 14 = .ok (.aload_n 0, 1) := by decide +kernel
theorem dX8_isPlain_15 : decode cX8_isPlain 15 = .ok (.getstatic 110, 3) := by decide +kernel
theorem dX8_isPlain_18 : decode cX8_isPlain 18 = .ok (.if_acmp .eq 17, 3) := by decide +kernel
theorem dX8_isPlain_21 : decode cX8_isPlain 21 = .ok (.aload_n 0, 1) := by decide +kernel
theorem dX8_isPlain_22 : decode cX8_isPlain 22 = .ok (.getstatic 113, 3) := by decide +kernel
theorem dX8_isPlain_25 : decode cX8_isPlain 25 = .ok (.if_acmp .eq 10, 3) := by decide +kernel
theorem dX8_isPlain_28 : decode cX8_isPlain 28 = .ok (.aload_n 0, 1) := by decide +kernel
theorem dX8_isPlain_29 : decode cX8_isPlain 29 = .ok (.invokestatic 116, 3) := by decide +kernel
theorem dX8_isPlain_32 : decode cX8_isPlain 32 = .ok (.ifCond .eq 7, 3) := by decide +kernel
theorem dX8_isPlain_35 : decode cX8_isPlain 35 = .ok (.iconst 1, 1) := by decide +kernel
theorem dX8_isPlain_36 : decode cX8_isPlain 36 = .ok (.goto 4, 3) := by decide +kernel
theorem dX8_isPlain_39 : decode cX8_isPlain 39 = .ok (.iconst 0, 1) := by decide +kernel
theorem dX8_isPlain_40 : decode cX8_isPlain 40 = .ok (.ireturn, 1) := by decide +kernel
set_option maxRecDepth 20000 in
theorem ggX8_isPlain_X8_isMeasure : GoodIn wsX8_isPlain wsX8_isMeasure := goodIn_r _ [8, 9, 10, 11, 12] rfl (by decide +kernel)
set_option maxRecDepth 20000 in
theorem gX8_isPlain_X8_isMeasure : GoodIn wsX8_isPlain (va_wsS RX8 116 yX8_isMeasure wsX8_isMeasure) := goodIn_app (goodIn_of _ (by decide +kernel)) ggX8_isPlain_X8_isMeasure
set_option maxHeartbeats 4000000 in
set_option maxRecDepth 100000 in
theorem s_X8_isPlain (l : Launch) (D : va_G) (ca : Nat → ClassId) (ad : Nat → Nat) (wt : Nat) (sz : Nat) (kw1 : Nat) (hkw1 : kw1 < 26) : sMet l yX8_isPlain wsX8_isPlain ({ frames := 1, cells := 0, slots := 0, locals := 20 } : Room) [.ref (ad kw1)] D ca ad wt sz [] (oQi D (fun (r : Int32) (u : Unit) => ((r = 1)) ∨ ((r = 0))) (fun (u : Unit) => [])) 0 0 := by
  refine sM (cc := cX8_isPlain) (maxL := 1) (ret := (some .boolean)) (by decide) rfl (Nat.le_of_ble_eq_true rfl) [(0, .ref (ad kw1))] rfl ?_
  intro p e s m below meth c A H locs ls hx hb hr hml hts hown hlocks hin hK hP hD hA hS hl hZ
  have hown : s.vm.findClass RX8 = some m.cls := hown
  have hE := hZ.2.2.2.2.2.1
  have k1 := hts (.fieldLink RX8 104 "LidCourt$Word" "SITTING" "LLidCourt$Word;") (by decide +kernel)
  have k2 := hts (.fieldLink RX8 107 "LidCourt$Word" "HOLDING" "LLidCourt$Word;") (by decide +kernel)
  have k3 := hts (.fieldLink RX8 110 "LidCourt$Word" "DENTED" "LLidCourt$Word;") (by decide +kernel)
  have k4 := hts (.fieldLink RX8 113 "LidCourt$Word" "RINGS" "LLidCourt$Word;") (by decide +kernel)
  refine lv_aload_n hx hb dX8_isPlain_0 rfl (lv_at hl 0 rfl) ?_
  refine va_gets (v := .ref (ad 18)) hx hb (hZw hZ 18 "SITTING" (by decide) (by decide)) hS hown k1 (fun _ h9 => h9) dX8_isPlain_1 ?_
  refine lv_acmp_eq (rx := (some (ad kw1))) (ry := (some (ad 18))) (tgt := 35) hx hb dX8_isPlain_4 (by decide) (fun c_9 => ?_) (fun c_9 => ?_)
  · skip
    refine lv_iconst (v := 1) hx hb dX8_isPlain_35 (by decide) ?_
    refine lv_goto (tgt := 40) hx hb dX8_isPlain_36 (by decide) ?_
    exact oE_i hx hb hr (by decide) hlocks hP hD hS () [] rfl (by decide) (Or.inl rfl) (Nat.le_of_ble_eq_true rfl) (Nat.le_of_ble_eq_true rfl) dX8_isPlain_40
  · skip
    refine lv_aload_n hx hb dX8_isPlain_7 rfl (lv_at hl 0 rfl) ?_
    refine va_gets (v := .ref (ad 19)) hx hb (hZw hZ 19 "HOLDING" (by decide) (by decide)) hS hown k2 (fun _ h9 => h9) dX8_isPlain_8 ?_
    refine lv_acmp_eq (rx := (some (ad kw1))) (ry := (some (ad 19))) (tgt := 35) hx hb dX8_isPlain_11 (by decide) (fun c_10 => ?_) (fun c_10 => ?_)
    · skip
      refine lv_iconst (v := 1) hx hb dX8_isPlain_35 (by decide) ?_
      refine lv_goto (tgt := 40) hx hb dX8_isPlain_36 (by decide) ?_
      exact oE_i hx hb hr (by decide) hlocks hP hD hS () [] rfl (by decide) (Or.inl rfl) (Nat.le_of_ble_eq_true rfl) (Nat.le_of_ble_eq_true rfl) dX8_isPlain_40
    · skip
      refine lv_aload_n hx hb dX8_isPlain_14 rfl (lv_at hl 0 rfl) ?_
      refine va_gets (v := .ref (ad 20)) hx hb (hZw hZ 20 "DENTED" (by decide) (by decide)) hS hown k3 (fun _ h9 => h9) dX8_isPlain_15 ?_
      refine lv_acmp_eq (rx := (some (ad kw1))) (ry := (some (ad 20))) (tgt := 35) hx hb dX8_isPlain_18 (by decide) (fun c_11 => ?_) (fun c_11 => ?_)
      · skip
        refine lv_iconst (v := 1) hx hb dX8_isPlain_35 (by decide) ?_
        refine lv_goto (tgt := 40) hx hb dX8_isPlain_36 (by decide) ?_
        exact oE_i hx hb hr (by decide) hlocks hP hD hS () [] rfl (by decide) (Or.inl rfl) (Nat.le_of_ble_eq_true rfl) (Nat.le_of_ble_eq_true rfl) dX8_isPlain_40
      · skip
        refine lv_aload_n hx hb dX8_isPlain_21 rfl (lv_at hl 0 rfl) ?_
        refine va_gets (v := .ref (ad 21)) hx hb (hZw hZ 21 "RINGS" (by decide) (by decide)) hS hown k4 (fun _ h9 => h9) dX8_isPlain_22 ?_
        refine lv_acmp_eq (rx := (some (ad kw1))) (ry := (some (ad 21))) (tgt := 35) hx hb dX8_isPlain_25 (by decide) (fun c_12 => ?_) (fun c_12 => ?_)
        · skip
          refine lv_iconst (v := 1) hx hb dX8_isPlain_35 (by decide) ?_
          refine lv_goto (tgt := 40) hx hb dX8_isPlain_36 (by decide) ?_
          exact oE_i hx hb hr (by decide) hlocks hP hD hS () [] rfl (by decide) (Or.inl rfl) (Nat.le_of_ble_eq_true rfl) (Nat.le_of_ble_eq_true rfl) dX8_isPlain_40
        · skip
          refine lv_aload_n hx hb dX8_isPlain_28 rfl (lv_at hl 0 rfl) ?_
          refine oC_i (Wc := []) (Wr := []) (va_runS (As := [.ref (ad kw1)]) (rest := []) ⟨hx, hb, hml, hown, hts⟩ (s_X8_isMeasure l D ca ad wt H.size kw1 hkw1) (va_cwS 1 hts gX8_isPlain_X8_isMeasure rfl rfl rfl (by decide +kernel) ⟨Nat.le_of_ble_eq_true rfl, Nat.le_of_ble_eq_true rfl⟩) (sPS hZ hS hA hK hP hD [] rfl (by decide)) rfl rfl hl.1 rfl (lv_room (Nat.le_of_ble_eq_true rfl)) dX8_isPlain_29 ⟨Nat.le_of_ble_eq_true rfl, Nat.le_of_ble_eq_true rfl⟩) hP hD hS hA [] [] rfl rfl (by decide) (by decide) (fun r_13 u H locs w_14 hP hD hS => ?_)
          obtain ⟨⟩ := u
          have hP : va_P D vwCl [] H := hP
          have hD : va_D A [] := hD
          try dsimp only at w_14
          rcases w_14 with h_15 | h_16
          · skip
            subst h_15
            refine lv_if_eq (tgt := 39) hx hb dX8_isPlain_32 (by decide) (fun c => absurd c (by decide)) (fun _ => ?_)
            refine lv_iconst (v := 1) hx hb dX8_isPlain_35 (by decide) ?_
            refine lv_goto (tgt := 40) hx hb dX8_isPlain_36 (by decide) ?_
            exact oE_i hx hb hr (by decide) hlocks hP hD hS () [] rfl (by decide) (Or.inl rfl) (Nat.le_of_ble_eq_true rfl) (Nat.le_of_ble_eq_true rfl) dX8_isPlain_40
          · skip
            subst h_16
            refine lv_if_eq (tgt := 39) hx hb dX8_isPlain_32 (by decide) (fun _ => ?_) (fun c => absurd (by decide) c)
            refine lv_iconst (v := 0) hx hb dX8_isPlain_39 (by decide) ?_
            exact oE_i hx hb hr (by decide) hlocks hP hD hS () [] rfl (by decide) (Or.inr (rfl)) (Nat.le_of_ble_eq_true rfl) (Nat.le_of_ble_eq_true rfl) dX8_isPlain_40
theorem dX8_plainWord_0 : decode cX8_plainWord 0 = .ok (.iconst 0, 1) := by decide +kernel
theorem dX8_plainWord_1 : decode cX8_plainWord 1 = .ok (.istore_n 1, 1) := by decide +kernel
theorem dX8_plainWord_2 : decode cX8_plainWord 2 = .ok (.iload_n 1, 1) := by decide +kernel
theorem dX8_plainWord_3 : decode cX8_plainWord 3 = .ok (.getstatic 97, 3) := by decide +kernel
theorem dX8_plainWord_6 : decode cX8_plainWord 6 = .ok (.arraylength, 1) := by decide +kernel
theorem dX8_plainWord_7 : decode cX8_plainWord 7 = .ok (.if_icmp .ge 45, 3) := by decide +kernel
theorem dX8_plainWord_10 : decode cX8_plainWord 10 = .ok (.aload_n 0, 1) := by decide +kernel
theorem dX8_plainWord_11 : decode cX8_plainWord 11 = .ok (.getfield 18, 3) := by decide +kernel
theorem dX8_plainWord_14 : decode cX8_plainWord 14 = .ok (.getstatic 97, 3) := by decide +kernel
theorem dX8_plainWord_17 : decode cX8_plainWord 17 = .ok (.iload_n 1, 1) := by decide +kernel
theorem dX8_plainWord_18 : decode cX8_plainWord 18 = .ok (.aaload, 1) := by decide +kernel
theorem dX8_plainWord_19 : decode cX8_plainWord 19 = .ok (.invokevirtual 77, 3) := by decide +kernel
theorem dX8_plainWord_22 : decode cX8_plainWord 22 = .ok (.ifCond .eq 24, 3) := by decide +kernel
theorem dX8_plainWord_25 : decode cX8_plainWord 25 = .ok (.getstatic 97, 3) := by decide +kernel
theorem dX8_plainWord_28 : decode cX8_plainWord 28 = .ok (.iload_n 1, 1) := by decide +kernel
theorem dX8_plainWord_29 : decode cX8_plainWord 29 = .ok (.aaload, 1) := by decide +kernel
theorem dX8_plainWord_30 : decode cX8_plainWord 30 = .ok (.invokestatic 101, 3) := by decide +kernel
theorem dX8_plainWord_33 : decode cX8_plainWord 33 = .ok (.ifCond .eq 11, 3) := by decide +kernel
theorem dX8_plainWord_36 : decode cX8_plainWord 36 = .ok (.getstatic 97, 3) := by decide +kernel
theorem dX8_plainWord_39 : decode cX8_plainWord 39 = .ok (.iload_n 1, 1) := by decide +kernel
theorem dX8_plainWord_40 : decode cX8_plainWord 40 = .ok (.aaload, 1) := by decide +kernel
theorem dX8_plainWord_41 : decode cX8_plainWord 41 = .ok (.goto 4, 3) := by decide +kernel
theorem dX8_plainWord_44 : decode cX8_plainWord 44 = .ok (.aconst_null, 1) := by decide +kernel
theorem dX8_plainWord_45 : decode cX8_plainWord 45 = .ok (.areturn, 1) := by decide +kernel
theorem dX8_plainWord_46 : decode cX8_plainWord 46 = .ok (.iinc 1 1, 3) := by decide +kernel
theorem dX8_plainWord_49 : decode cX8_plainWord 49 = .ok (.goto (-47), 3) := by decide +kernel
theorem dX8_plainWord_52 : decode cX8_plainWord 52 = .ok (.aconst_null, 1) := by decide +kernel
theorem dX8_plainWord_53 : decode cX8_plainWord 53 = .ok (.areturn, 1) := by decide +kernel
set_option maxRecDepth 20000 in
theorem ggX8_plainWord_X6_sees : GoodIn wsX8_plainWord wsX6_sees := goodIn_r _ [6, 7, 8, 9, 28, 29, 30, 31, 32, 33, 34, 35, 36, 37] rfl (by decide +kernel)
set_option maxRecDepth 20000 in
theorem gX8_plainWord_X6_sees : GoodIn wsX8_plainWord (wsV RX8 77 RX6 yX6_sees wsX6_sees) := goodIn_app (goodIn_of _ (by decide +kernel)) ggX8_plainWord_X6_sees
set_option maxRecDepth 20000 in
theorem ggX8_plainWord_X8_isPlain : GoodIn wsX8_plainWord wsX8_isPlain := goodIn_r _ [13, 14, 15, 16, 17, 18, 19, 12, 20, 21, 22, 23, 24] rfl (by decide +kernel)
set_option maxRecDepth 20000 in
theorem gX8_plainWord_X8_isPlain : GoodIn wsX8_plainWord (va_wsS RX8 101 yX8_isPlain wsX8_isPlain) := goodIn_app (goodIn_of _ (by decide +kernel)) ggX8_plainWord_X8_isPlain
set_option maxHeartbeats 4000000 in
set_option maxRecDepth 100000 in
theorem s_X8_plainWord (l : Launch) (D : va_G) (ca : Nat → ClassId) (ad : Nat → Nat) (wt : Nat) (sz : Nat) (h0 : Nat) (h0_draft : Nat) (h0_ones : Int32) (h0_reader : Nat) (h0_reader_bytes : Nat) (h0_reader_length : Int32) (h0_reader_faultKind : Int32) (h0_reader_faultAt : Int32) (h0_reader_letters : Int64) (h0_reader_mostBytes : Int32) (h0_reader_behind : Int32) (h0_reader_at : Int32) (h0_reader_kind : Int32) (h0_reader_number : Int32) (i_h0_reader_length : rg 0 940 h0_reader_length) (i_h0_reader_faultKind : rg 0 4 h0_reader_faultKind) (i_h0_reader_behind : rg 0 940 h0_reader_behind) : sMet l yX8_plainWord wsX8_plainWord ({ frames := 2, cells := 0, slots := 0, locals := 40 } : Room) [.ref h0] D ca ad wt sz [(h0, .inr (8, [.ref h0_draft, .int h0_ones, .ref h0_reader])), (h0_reader, .inr (6, [.ref h0_reader_bytes, .int h0_reader_length, .int h0_reader_faultKind, .int h0_reader_faultAt, .long h0_reader_letters, .int h0_reader_mostBytes, .int h0_reader_behind, .int h0_reader_at, .int h0_reader_kind, .int h0_reader_number]))] (oQq D (fun (r : Option Nat) (u : Unit) => True) (fun (u : Unit) => [(h0, .inr (8, [.ref h0_draft, .int h0_ones, .ref h0_reader])), (h0_reader, .inr (6, [.ref h0_reader_bytes, .int h0_reader_length, .int h0_reader_faultKind, .int h0_reader_faultAt, .long h0_reader_letters, .int h0_reader_mostBytes, .int h0_reader_behind, .int h0_reader_at, .int h0_reader_kind, .int h0_reader_number]))])) 0 0 := by
  refine sM (cc := cX8_plainWord) (maxL := 2) (ret := (some (.object "LidCourt$Word"))) (by decide) rfl (Nat.le_of_ble_eq_true rfl) [(0, .ref h0)] rfl ?_
  intro p e s m below meth c A H locs ls hx hb hr hml hts hown hlocks hin hK hP hD hA hS hl hZ
  have hown : s.vm.findClass RX8 = some m.cls := hown
  have hE := hZ.2.2.2.2.2.1
  have k1 := hts (.fieldLink RX8 18 "LidCourt$SentenceReader" "reader" "LLidCourt$Reader;") (by decide +kernel)
  have k2 : ∀ w ∈ wsX80, w ∈ wsX8_plainWord := fun _ h => List.mem_cons_of_mem _ (List.mem_append_left _ (List.mem_append_right _ h))
  have J2_75 : ∀ (n : Nat) (y2_0 : Int32), True → rg 0 940 y2_0 → 940 < y2_0.toInt + (n : Int) → ∀ (H : Heap) (locs : List Loc) (ls : Array Slot), va_P D vwCl [(h0, .inr (8, [.ref h0_draft, .int h0_ones, .ref h0_reader])), (h0_reader, .inr (6, [.ref h0_reader_bytes, .int h0_reader_length, .int h0_reader_faultKind, .int h0_reader_faultAt, .long h0_reader_letters, .int h0_reader_mostBytes, .int h0_reader_behind, .int h0_reader_at, .int h0_reader_kind, .int h0_reader_number]))] H → va_D A [(h0, .inr (8, [.ref h0_draft, .int h0_ones, .ref h0_reader])), (h0_reader, .inr (6, [.ref h0_reader_bytes, .int h0_reader_length, .int h0_reader_faultKind, .int h0_reader_faultAt, .long h0_reader_letters, .int h0_reader_mostBytes, .int h0_reader_behind, .int h0_reader_at, .int h0_reader_kind, .int h0_reader_number]))] → va_S A s.heap H locs → lv_has ls 2 [(0, .ref h0), (1, .int y2_0)] → W p l e ({ frames := 2, cells := 0, slots := 0, locals := 40 } : Room) s m ([.ref h0] : List Value).toArray below meth c H locs 0 0 (MQ below ((oQq D (fun (r : Option Nat) (u : Unit) => True) (fun (u : Unit) => [(h0, .inr (8, [.ref h0_draft, .int h0_ones, .ref h0_reader])), (h0_reader, .inr (6, [.ref h0_reader_bytes, .int h0_reader_length, .int h0_reader_faultKind, .int h0_reader_faultAt, .long h0_reader_letters, .int h0_reader_mostBytes, .int h0_reader_behind, .int h0_reader_at, .int h0_reader_kind, .int h0_reader_number]))])) A) ([.ref h0] : List Value).toArray s 0 0 A) (F0 m 2 ls []) := by
    intro n
    induction n with
    | zero => intro y2_0 _ hy2_0 hn; exact absurd hn (by have q9 := hy2_0.2; omega)
    | succ n ih =>
      intro y2_0 _ hy2_0 hn H locs ls hP hD hS hl
      refine lv_iload_n hx hb dX8_plainWord_2 rfl (lv_at hl 1 rfl) ?_
      refine va_getsN (v := .ref wt) hx hb hZ.2.2.1 hS hown (va_Nw.use rfl hK.2.2.1.2) (fun _ h9 => h9) dX8_plainWord_3 ?_
      refine va_tlen hx hb hZ.2.2.2.1 hS (v := 26) (by decide) dX8_plainWord_6 ?_
      refine lv_icmp_ge (tgt := 52) hx hb dX8_plainWord_7 (by decide) (fun c_96 => ?_) (fun c_96 => ?_)
      · skip
        have o_97 : rl 0 26 y2_0 := rl_le c_96
        have h_98 : rg 26 940 y2_0 := rl_y o_97 (⟨by decide, by decide⟩ : rg 26 26 (26 : Int32)) hy2_0 (by decide) (by decide)
        refine lv_null hx hb dX8_plainWord_52 ?_
        exact oE_q (r := none) hx hb hr (Or.inl ⟨_, rfl⟩) rfl hlocks hP hD hS () [0, 1] rfl (by decide) trivial (Nat.le_of_ble_eq_true rfl) (Nat.le_of_ble_eq_true rfl) dX8_plainWord_53
      · skip
        have o_99 : rl 1 y2_0 26 := rl_nle c_96
        have h_100 : rg 0 25 y2_0 := rl_x o_99 hy2_0 (⟨by decide, by decide⟩ : rg 26 26 (26 : Int32)) (by decide) (by decide)
        refine lv_aload_n hx hb dX8_plainWord_10 rfl (lv_at hl 0 rfl) ?_
        refine va_get (D := D) (ci := 8) (v := .ref h0_reader) (C := RX8) (T := TX8) (N := 3) hx hb hts k2 hown hK.1 hP 0 rfl rfl 2 (by decide) k1 (fun _ h9 => h9) rfl dX8_plainWord_11 ?_
        refine va_getsN (v := .ref wt) hx hb hZ.2.2.1 hS hown (va_Nw.use rfl hK.2.2.1.2) (fun _ h9 => h9) dX8_plainWord_14 ?_
        refine lv_iload_n hx hb dX8_plainWord_17 rfl (lv_at hl 1 rfl) ?_
        refine vb_tq hx hb hZ.2.2.2.1 hS (rg_in h_100 (by decide) (by decide)) (v := .ref (ad y2_0.toNatClampNeg)) rfl dX8_plainWord_18 ?_
        have h_101 : y2_0.toNatClampNeg < 26 := adk h_100 (by decide) (by decide)
        refine oC_i (Wc := [(h0_reader, .inr (6, [.ref h0_reader_bytes, .int h0_reader_length, .int h0_reader_faultKind, .int h0_reader_faultAt, .long h0_reader_letters, .int h0_reader_mostBytes, .int h0_reader_behind, .int h0_reader_at, .int h0_reader_kind, .int h0_reader_number]))]) (Wr := [(h0, .inr (8, [.ref h0_draft, .int h0_ones, .ref h0_reader]))]) (va_runV (As := [.ref (ad y2_0.toNatClampNeg)]) (rest := []) ⟨hx, hb, hml, hown, hts⟩ (s_X6_sees l D ca ad wt H.size h0_reader h0_reader_bytes h0_reader_length h0_reader_faultKind h0_reader_faultAt h0_reader_letters h0_reader_mostBytes h0_reader_behind h0_reader_at h0_reader_kind h0_reader_number y2_0.toNatClampNeg i_h0_reader_length i_h0_reader_faultKind i_h0_reader_behind h_101) (cwV 1 hts gX8_plainWord_X6_sees rfl rfl rfl (by decide +kernel) ⟨Nat.le_of_ble_eq_true rfl, Nat.le_of_ble_eq_true rfl⟩) (sPV (C := RX6) hZ hS hA hK hP hD [1] rfl (by decide) 0 rfl (ci := 6) rfl rfl) rfl rfl hl.1 rfl (lv_room (Nat.le_of_ble_eq_true rfl)) dX8_plainWord_19 ⟨Nat.le_of_ble_eq_true rfl, Nat.le_of_ble_eq_true rfl⟩) hP hD hS hA [1] [0] rfl rfl (by decide) (by decide) (fun r_102 u H locs w_103 hP hD hS => ?_)
        obtain ⟨⟩ := u
        have hP : va_P D vwCl [(h0, .inr (8, [.ref h0_draft, .int h0_ones, .ref h0_reader])), (h0_reader, .inr (6, [.ref h0_reader_bytes, .int h0_reader_length, .int h0_reader_faultKind, .int h0_reader_faultAt, .long h0_reader_letters, .int h0_reader_mostBytes, .int h0_reader_behind, .int h0_reader_at, .int h0_reader_kind, .int h0_reader_number]))] H := hP
        have hD : va_D A [(h0, .inr (8, [.ref h0_draft, .int h0_ones, .ref h0_reader])), (h0_reader, .inr (6, [.ref h0_reader_bytes, .int h0_reader_length, .int h0_reader_faultKind, .int h0_reader_faultAt, .long h0_reader_letters, .int h0_reader_mostBytes, .int h0_reader_behind, .int h0_reader_at, .int h0_reader_kind, .int h0_reader_number]))] := hD
        try dsimp only at w_103
        rcases w_103 with h_104 | ⟨h_105, h_106⟩
        · skip
          subst h_104
          refine lv_if_eq (tgt := 46) hx hb dX8_plainWord_22 (by decide) (fun _ => ?_) (fun c => absurd (by decide) c)
          obtain ⟨x_107, ex_107⟩ : ∃ y : Int32, y = y2_0 + 1 := ⟨_, rfl⟩
          have h_108 : rg 1 26 x_107 := by rw [ex_107]; exact rg_add h_100 (⟨by decide, by decide⟩ : rg 1 1 (1 : Int32)) (by decide) (by decide) (by decide) (by decide)
          have l_109 : lq x_107.toInt (y2_0.toInt + 1) := lqm (by rw [ex_107]; have q := tadd h_100 (⟨by decide, by decide⟩ : rg 1 1 (1 : Int32)) (by decide) (by decide); have r1 := lqe (lqm (by decide) : lq (1 : Int32).toInt 1); omega)
          refine lv_iinc (v := x_107) (lv' := [(1, .int x_107), (0, .ref h0)]) hx hb dX8_plainWord_46 hl (k := 1) rfl (by rw [ex_107]; rfl) (by decide) rfl (fun ls hl => ?_)
          refine lv_goto (tgt := 2) hx hb dX8_plainWord_49 (by decide) ?_
          exact ih x_107 trivial (rgw (lo := 0) (hi := 940) h_108 (by decide) (by decide)) (by have q0 := lqe l_109; omega) H locs ls (oPsub hP [0, 1] rfl) (hD.sub [0, 1] (by decide) rfl) hS (lv_sub hl [1, 0] rfl)
        · skip
          subst h_105
          refine lv_if_eq (tgt := 46) hx hb dX8_plainWord_22 (by decide) (fun c => absurd c (by decide)) (fun _ => ?_)
          refine va_getsN (v := .ref wt) hx hb hZ.2.2.1 hS hown (va_Nw.use rfl hK.2.2.1.2) (fun _ h9 => h9) dX8_plainWord_25 ?_
          refine lv_iload_n hx hb dX8_plainWord_28 rfl (lv_at hl 1 rfl) ?_
          refine vb_tq hx hb hZ.2.2.2.1 hS (rg_in h_100 (by decide) (by decide)) (v := .ref (ad y2_0.toNatClampNeg)) rfl dX8_plainWord_29 ?_
          have h_110 : y2_0.toNatClampNeg < 26 := adk h_100 (by decide) (by decide)
          refine oC_i (Wc := []) (Wr := [(h0, .inr (8, [.ref h0_draft, .int h0_ones, .ref h0_reader])), (h0_reader, .inr (6, [.ref h0_reader_bytes, .int h0_reader_length, .int h0_reader_faultKind, .int h0_reader_faultAt, .long h0_reader_letters, .int h0_reader_mostBytes, .int h0_reader_behind, .int h0_reader_at, .int h0_reader_kind, .int h0_reader_number]))]) (va_runS (As := [.ref (ad y2_0.toNatClampNeg)]) (rest := []) ⟨hx, hb, hml, hown, hts⟩ (s_X8_isPlain l D ca ad wt H.size y2_0.toNatClampNeg h_110) (va_cwS 1 hts gX8_plainWord_X8_isPlain rfl rfl rfl (by decide +kernel) ⟨Nat.le_of_ble_eq_true rfl, Nat.le_of_ble_eq_true rfl⟩) (sPS hZ hS hA hK hP hD [] rfl (by decide)) rfl rfl hl.1 rfl (lv_room (Nat.le_of_ble_eq_true rfl)) dX8_plainWord_30 ⟨Nat.le_of_ble_eq_true rfl, Nat.le_of_ble_eq_true rfl⟩) hP hD hS hA [] [0, 1] rfl rfl (by decide) (by decide) (fun r_111 u H locs w_112 hP hD hS => ?_)
          obtain ⟨⟩ := u
          have hP : va_P D vwCl [(h0, .inr (8, [.ref h0_draft, .int h0_ones, .ref h0_reader])), (h0_reader, .inr (6, [.ref h0_reader_bytes, .int h0_reader_length, .int h0_reader_faultKind, .int h0_reader_faultAt, .long h0_reader_letters, .int h0_reader_mostBytes, .int h0_reader_behind, .int h0_reader_at, .int h0_reader_kind, .int h0_reader_number]))] H := hP
          have hD : va_D A [(h0, .inr (8, [.ref h0_draft, .int h0_ones, .ref h0_reader])), (h0_reader, .inr (6, [.ref h0_reader_bytes, .int h0_reader_length, .int h0_reader_faultKind, .int h0_reader_faultAt, .long h0_reader_letters, .int h0_reader_mostBytes, .int h0_reader_behind, .int h0_reader_at, .int h0_reader_kind, .int h0_reader_number]))] := hD
          try dsimp only at w_112
          rcases w_112 with h_113 | h_114
          · skip
            subst h_113
            refine lv_if_eq (tgt := 44) hx hb dX8_plainWord_33 (by decide) (fun c => absurd c (by decide)) (fun _ => ?_)
            refine va_getsN (v := .ref wt) hx hb hZ.2.2.1 hS hown (va_Nw.use rfl hK.2.2.1.2) (fun _ h9 => h9) dX8_plainWord_36 ?_
            refine lv_iload_n hx hb dX8_plainWord_39 rfl (lv_at hl 1 rfl) ?_
            refine vb_tq hx hb hZ.2.2.2.1 hS (rg_in h_100 (by decide) (by decide)) (v := .ref (ad y2_0.toNatClampNeg)) rfl dX8_plainWord_40 ?_
            have h_115 : y2_0.toNatClampNeg < 26 := adk h_100 (by decide) (by decide)
            refine lv_goto (tgt := 45) hx hb dX8_plainWord_41 (by decide) ?_
            exact oE_q (r := (some (ad y2_0.toNatClampNeg))) hx hb hr (Or.inl ⟨_, rfl⟩) rfl hlocks hP hD hS () [0, 1] rfl (by decide) trivial (Nat.le_of_ble_eq_true rfl) (Nat.le_of_ble_eq_true rfl) dX8_plainWord_45
          · skip
            subst h_114
            refine lv_if_eq (tgt := 44) hx hb dX8_plainWord_33 (by decide) (fun _ => ?_) (fun c => absurd (by decide) c)
            refine lv_null hx hb dX8_plainWord_44 ?_
            exact oE_q (r := none) hx hb hr (Or.inl ⟨_, rfl⟩) rfl hlocks hP hD hS () [0, 1] rfl (by decide) trivial (Nat.le_of_ble_eq_true rfl) (Nat.le_of_ble_eq_true rfl) dX8_plainWord_45
  refine lv_iconst (v := 0) hx hb dX8_plainWord_0 (by decide) ?_
  refine lv_istore_n (lv' := [(1, .int 0), (0, .ref h0)]) hx hb dX8_plainWord_1 rfl hl (by decide) rfl (fun ls hl => ?_)
  exact J2_75 941 0 trivial (⟨by decide, by decide⟩ : rg 0 940 (0 : Int32)) (by have q0 := (⟨by decide, by decide⟩ : rg 0 0 (0 : Int32)).1; omega) H locs ls (oPsub hP [0, 1] rfl) (hD.sub [0, 1] (by decide) rfl) hS (lv_sub hl [1, 0] rfl)
theorem dX7_add_0 : decode cX7_add 0 = .ok (.aload_n 0, 1) := by decide +kernel
theorem dX7_add_1 : decode cX7_add 1 = .ok (.getfield 31, 3) := by decide +kernel
theorem dX7_add_4 : decode cX7_add 4 = .ok (.bipush 40, 2) := by decide +kernel
theorem dX7_add_6 : decode cX7_add 6 = .ok (.if_icmp .ge 43, 3) := by decide +kernel
theorem dX7_add_9 : decode cX7_add 9 = .ok (.aload_n 0, 1) := by decide +kernel
theorem dX7_add_10 : decode cX7_add 10 = .ok (.getfield 13, 3) := by decide +kernel
theorem dX7_add_13 : decode cX7_add 13 = .ok (.aload_n 0, 1) := by decide +kernel
theorem dX7_add_14 : decode cX7_add 14 = .ok (.getfield 31, 3) := by decide +kernel
theorem dX7_add_17 : decode cX7_add 17 = .ok (.aload_n 1, 1) := by decide +kernel
theorem dX7_add_18 : decode cX7_add 18 = .ok (.aastore, 1) := by decide +kernel
theorem dX7_add_19 : decode cX7_add 19 = .ok (.aload_n 0, 1) := by decide +kernel
theorem dX7_add_20 : decode cX7_add 20 = .ok (.getfield 17, 3) := by decide +kernel
theorem dX7_add_23 : decode cX7_add 23 = .ok (.aload_n 0, 1) := by decide +kernel
theorem dX7_add_24 : decode cX7_add 24 = .ok (.getfield 31, 3) := by decide +kernel
theorem dX7_add_27 : decode cX7_add 27 = .ok (.iload_n 2, 1) := by decide +kernel
theorem dX7_add_28 : decode cX7_add 28 = .ok (.iastore, 1) := by decide +kernel
theorem dX7_add_29 : decode cX7_add 29 = .ok (.aload_n 0, 1) := by decide +kernel
theorem dX7_add_30 : decode cX7_add 30 = .ok (.getfield 21, 3) := by decide +kernel
theorem dX7_add_33 : decode cX7_add 33 = .ok (.aload_n 0, 1) := by decide +kernel
theorem dX7_add_34 : decode cX7_add 34 = .ok (.getfield 31, 3) := by decide +kernel
theorem dX7_add_37 : decode cX7_add 37 = .ok (.iload_n 3, 1) := by decide +kernel
theorem dX7_add_38 : decode cX7_add 38 = .ok (.iastore, 1) := by decide +kernel
theorem dX7_add_39 : decode cX7_add 39 = .ok (.aload_n 0, 1) := by decide +kernel
theorem dX7_add_40 : decode cX7_add 40 = .ok (.dup, 1) := by decide +kernel
theorem dX7_add_41 : decode cX7_add 41 = .ok (.getfield 31, 3) := by decide +kernel
theorem dX7_add_44 : decode cX7_add 44 = .ok (.iconst 1, 1) := by decide +kernel
theorem dX7_add_45 : decode cX7_add 45 = .ok (.iadd, 1) := by decide +kernel
theorem dX7_add_46 : decode cX7_add 46 = .ok (.putfield 31, 3) := by decide +kernel
theorem dX7_add_49 : decode cX7_add 49 = .ok (.return_, 1) := by decide +kernel
set_option maxHeartbeats 4000000 in
set_option maxRecDepth 100000 in
theorem s_X7_add (l : Launch) (D : va_G) (ca : Nat → ClassId) (ad : Nat → Nat) (wt : Nat) (sz : Nat) (h0 : Nat) (a2 : Int32) (a3 : Int32) (h0_present : Int32) (h0_steps : Int32) (h0_word : Nat) (h0_first : Nat) (h0_second : Nat) (h0_sets : Nat) (F_h0_word : Nat → Option Nat) (F_h0_first : Nat → Int32) (F_h0_second : Nat → Int32) (kw1 : Nat) (i_h0_present : rg 0 1 h0_present) (i_h0_steps : rg 0 40 h0_steps) (hkw1 : kw1 < 26) : sMet l yX7_add wsX7_add ({ frames := 0, cells := 0, slots := 0, locals := 0 } : Room) [.ref h0, .ref (ad kw1), .int a2, .int a3] D ca ad wt sz [(h0, .inr (7, [.int h0_present, .int h0_steps, .ref h0_word, .ref h0_first, .ref h0_second, .ref h0_sets])), (aW ca h0_word 40 F_h0_word), (aI ca h0_first 40 F_h0_first), (aI ca h0_second 40 F_h0_second)] (oQv D (fun (u : Int32 × (Nat → Option Nat) × (Nat → Int32) × (Nat → Int32)) => (rg 1 40 u.1) ∧ (rl 0 h0_steps u.1) ∧ (rl (-1) u.1 h0_steps)) (fun (u : Int32 × (Nat → Option Nat) × (Nat → Int32) × (Nat → Int32)) => [(h0, .inr (7, [.int h0_present, .int u.1, .ref h0_word, .ref h0_first, .ref h0_second, .ref h0_sets])), (aW ca h0_word 40 u.2.1), (aI ca h0_first 40 u.2.2.1), (aI ca h0_second 40 u.2.2.2)])) 0 0 := by
  refine sM (cc := cX7_add) (maxL := 4) (ret := none) (by decide) rfl (Nat.le_of_ble_eq_true rfl) [(0, .ref h0), (1, .ref (ad kw1)), (2, .int a2), (3, .int a3)] rfl ?_
  intro p e s m below meth c A H locs ls hx hb hr hml hts hown hlocks hin hK hP hD hA hS hl hZ
  have hown : s.vm.findClass RX7 = some m.cls := hown
  have hE := hZ.2.2.2.2.2.1
  have k1 := hts (.fieldLink RX7 31 "LidCourt$Saying" "steps" "I") (by decide +kernel)
  have k2 : ∀ w ∈ wsX70, w ∈ wsX7_add := fun _ h => List.mem_cons_of_mem _ (List.mem_append_right _ h)
  have k3 := hts (.fieldLink RX7 13 "LidCourt$Saying" "word" "[LLidCourt$Word;") (by decide +kernel)
  have k4 := hts (.fieldLink RX7 17 "LidCourt$Saying" "first" "[I") (by decide +kernel)
  have k5 := hts (.fieldLink RX7 21 "LidCourt$Saying" "second" "[I") (by decide +kernel)
  refine lv_aload_n hx hb dX7_add_0 rfl (lv_at hl 0 rfl) ?_
  refine va_get (D := D) (ci := 7) (v := .int h0_steps) (C := RX7) (T := TX7) (N := 6) hx hb hts k2 hown hK.1 hP 0 rfl rfl 1 (by decide) k1 (fun _ h9 => h9) rfl dX7_add_1 ?_
  refine lv_bipush (v := 40) hx hb dX7_add_4 (by decide) ?_
  refine lv_icmp_ge (tgt := 49) hx hb dX7_add_6 (by decide) (fun c_12 => ?_) (fun c_12 => ?_)
  · skip
    have o_13 : rl 0 40 h0_steps := rl_le c_12
    have h_14 : rg 40 40 h0_steps := rl_y o_13 (⟨by decide, by decide⟩ : rg 40 40 (40 : Int32)) i_h0_steps (by decide) (by decide)
    exact oE_v hx hb hr hlocks hP hD hS (h0_steps, F_h0_word, F_h0_first, F_h0_second) [0, 1, 2, 3] rfl (by decide) ⟨(rgw (lo := 1) (hi := 40) h_14 (by decide) (by decide)), (show rl 0 h0_steps h0_steps from rlm (by omega)), (show rl (-1) h0_steps h0_steps from rlm (by omega))⟩ (Nat.le_of_ble_eq_true rfl) (Nat.le_of_ble_eq_true rfl) dX7_add_49
  · skip
    have o_15 : rl 1 h0_steps 40 := rl_nle c_12
    have h_16 : rg 0 39 h0_steps := rl_x o_15 i_h0_steps (⟨by decide, by decide⟩ : rg 40 40 (40 : Int32)) (by decide) (by decide)
    refine lv_aload_n hx hb dX7_add_9 rfl (lv_at hl 0 rfl) ?_
    refine va_get (D := D) (ci := 7) (v := .ref h0_word) (C := RX7) (T := TX7) (N := 6) hx hb hts k2 hown hK.1 hP 0 rfl rfl 2 (by decide) k3 (fun _ h9 => h9) rfl dX7_add_10 ?_
    refine lv_aload_n hx hb dX7_add_13 rfl (lv_at hl 0 rfl) ?_
    refine va_get (D := D) (ci := 7) (v := .int h0_steps) (C := RX7) (T := TX7) (N := 6) hx hb hts k2 hown hK.1 hP 0 rfl rfl 1 (by decide) k1 (fun _ h9 => h9) rfl dX7_add_14 ?_
    refine lv_aload_n hx hb dX7_add_17 rfl (lv_at hl 1 rfl) ?_
    refine vb_astq (E := "LidCourt$Word") (C := "LidCourt$Word") hx hb hK.1 hP hD hS 1 6 rfl rfl (aO ((hZ.2.2.2.2.1 kw1 hkw1).2.kept hS.2.1)) (vb_asgS) (rg_in h_16 (by decide) (by decide)) dX7_add_18 (fun H locs hP hD hS => ?_)
    obtain ⟨g_17, eg_17⟩ : ∃ y : Nat → Option Nat, y = va_up F_h0_word (h0_steps : Int32).toNatClampNeg (some (ad kw1)) := ⟨_, rfl⟩
    rw [← eg_17] at hP hD
    have hP : va_P D vwCl [(h0, .inr (7, [.int h0_present, .int h0_steps, .ref h0_word, .ref h0_first, .ref h0_second, .ref h0_sets])), (aW ca h0_word 40 g_17), (aI ca h0_first 40 F_h0_first), (aI ca h0_second 40 F_h0_second)] H := hP
    have hD : va_D A [(h0, .inr (7, [.int h0_present, .int h0_steps, .ref h0_word, .ref h0_first, .ref h0_second, .ref h0_sets])), (aW ca h0_word 40 g_17), (aI ca h0_first 40 F_h0_first), (aI ca h0_second 40 F_h0_second)] := hD
    refine lv_aload_n hx hb dX7_add_19 rfl (lv_at hl 0 rfl) ?_
    refine va_get (D := D) (ci := 7) (v := .ref h0_first) (C := RX7) (T := TX7) (N := 6) hx hb hts k2 hown hK.1 hP 0 rfl rfl 3 (by decide) k4 (fun _ h9 => h9) rfl dX7_add_20 ?_
    refine lv_aload_n hx hb dX7_add_23 rfl (lv_at hl 0 rfl) ?_
    refine va_get (D := D) (ci := 7) (v := .int h0_steps) (C := RX7) (T := TX7) (N := 6) hx hb hts k2 hown hK.1 hP 0 rfl rfl 1 (by decide) k1 (fun _ h9 => h9) rfl dX7_add_24 ?_
    refine lv_iload_n hx hb dX7_add_27 rfl (lv_at hl 2 rfl) ?_
    refine va_iast hx hb hK.1 hP hD hS 2 0 rfl rfl (rg_in h_16 (by decide) (by decide)) dX7_add_28 (fun H locs hP hD hS => ?_)
    obtain ⟨g_18, eg_18⟩ : ∃ y : Nat → Int32, y = upd F_h0_first (h0_steps : Int32).toNatClampNeg (a2 : Int32) := ⟨_, rfl⟩
    rw [← eg_18] at hP hD
    have hP : va_P D vwCl [(h0, .inr (7, [.int h0_present, .int h0_steps, .ref h0_word, .ref h0_first, .ref h0_second, .ref h0_sets])), (aW ca h0_word 40 g_17), (aI ca h0_first 40 g_18), (aI ca h0_second 40 F_h0_second)] H := hP
    have hD : va_D A [(h0, .inr (7, [.int h0_present, .int h0_steps, .ref h0_word, .ref h0_first, .ref h0_second, .ref h0_sets])), (aW ca h0_word 40 g_17), (aI ca h0_first 40 g_18), (aI ca h0_second 40 F_h0_second)] := hD
    refine lv_aload_n hx hb dX7_add_29 rfl (lv_at hl 0 rfl) ?_
    refine va_get (D := D) (ci := 7) (v := .ref h0_second) (C := RX7) (T := TX7) (N := 6) hx hb hts k2 hown hK.1 hP 0 rfl rfl 4 (by decide) k5 (fun _ h9 => h9) rfl dX7_add_30 ?_
    refine lv_aload_n hx hb dX7_add_33 rfl (lv_at hl 0 rfl) ?_
    refine va_get (D := D) (ci := 7) (v := .int h0_steps) (C := RX7) (T := TX7) (N := 6) hx hb hts k2 hown hK.1 hP 0 rfl rfl 1 (by decide) k1 (fun _ h9 => h9) rfl dX7_add_34 ?_
    refine lv_iload_n hx hb dX7_add_37 rfl (lv_at hl 3 rfl) ?_
    refine va_iast hx hb hK.1 hP hD hS 3 0 rfl rfl (rg_in h_16 (by decide) (by decide)) dX7_add_38 (fun H locs hP hD hS => ?_)
    obtain ⟨g_19, eg_19⟩ : ∃ y : Nat → Int32, y = upd F_h0_second (h0_steps : Int32).toNatClampNeg (a3 : Int32) := ⟨_, rfl⟩
    rw [← eg_19] at hP hD
    have hP : va_P D vwCl [(h0, .inr (7, [.int h0_present, .int h0_steps, .ref h0_word, .ref h0_first, .ref h0_second, .ref h0_sets])), (aW ca h0_word 40 g_17), (aI ca h0_first 40 g_18), (aI ca h0_second 40 g_19)] H := hP
    have hD : va_D A [(h0, .inr (7, [.int h0_present, .int h0_steps, .ref h0_word, .ref h0_first, .ref h0_second, .ref h0_sets])), (aW ca h0_word 40 g_17), (aI ca h0_first 40 g_18), (aI ca h0_second 40 g_19)] := hD
    refine lv_aload_n hx hb dX7_add_39 rfl (lv_at hl 0 rfl) ?_
    refine lv_dup hx hb dX7_add_40 rfl ?_
    refine va_get (D := D) (ci := 7) (v := .int h0_steps) (C := RX7) (T := TX7) (N := 6) hx hb hts k2 hown hK.1 hP 0 rfl rfl 1 (by decide) k1 (fun _ h9 => h9) rfl dX7_add_41 ?_
    refine lv_iconst (v := 1) hx hb dX7_add_44 (by decide) ?_
    refine lv_iadd hx hb dX7_add_45 ?_
    refine lv_topi (fun x_20 ex_20 => ?_)
    have h_21 : rg 1 40 x_20 := by rw [ex_20]; exact rg_add h_16 (⟨by decide, by decide⟩ : rg 1 1 (1 : Int32)) (by decide) (by decide) (by decide) (by decide)
    have l_22 : lq x_20.toInt (h0_steps.toInt + 1) := lqm (by rw [ex_20]; have q := tadd h_16 (⟨by decide, by decide⟩ : rg 1 1 (1 : Int32)) (by decide) (by decide); have r1 := lqe (lqm (by decide) : lq (1 : Int32).toInt 1); omega)
    refine va_put (D := D) (ci := 7) (v := .int x_20) (ty := .int) (C := RX7) (T := TX7) (N := 6) hx hb hts k2 tyX7 tyX7_ok nmX7 hown hK.1 hP hD hS 0 rfl rfl 1 (by decide) k1 (fun _ h9 => h9) rfl (by decide +kernel) rfl rfl (Nat.le_of_ble_eq_true rfl) dX7_add_46 (fun H locs hP hD hS => ?_)
    have hP : va_P D vwCl [(h0, .inr (7, [.int h0_present, .int x_20, .ref h0_word, .ref h0_first, .ref h0_second, .ref h0_sets])), (aW ca h0_word 40 g_17), (aI ca h0_first 40 g_18), (aI ca h0_second 40 g_19)] H := hP
    have hD : va_D A [(h0, .inr (7, [.int h0_present, .int x_20, .ref h0_word, .ref h0_first, .ref h0_second, .ref h0_sets])), (aW ca h0_word 40 g_17), (aI ca h0_first 40 g_18), (aI ca h0_second 40 g_19)] := hD
    exact oE_v hx hb hr hlocks hP hD hS (x_20, g_17, g_18, g_19) [0, 1, 2, 3] rfl (by decide) ⟨h_21, (show rl 0 h0_steps x_20 from rlm (by have q0 := lqe l_22; omega)), (show rl (-1) x_20 h0_steps from rlm (by have q0 := lqe l_22; omega))⟩ (Nat.le_of_ble_eq_true rfl) (Nat.le_of_ble_eq_true rfl) dX7_add_49
theorem dX8_seenSign_0 : decode cX8_seenSign 0 = .ok (.aload_n 0, 1) := by decide +kernel
theorem dX8_seenSign_1 : decode cX8_seenSign 1 = .ok (.getfield 18, 3) := by decide +kernel
theorem dX8_seenSign_4 : decode cX8_seenSign 4 = .ok (.bipush 60, 2) := by decide +kernel
theorem dX8_seenSign_6 : decode cX8_seenSign 6 = .ok (.invokevirtual 80, 3) := by decide +kernel
theorem dX8_seenSign_9 : decode cX8_seenSign 9 = .ok (.ifCond .eq 6, 3) := by decide +kernel
theorem dX8_seenSign_12 : decode cX8_seenSign 12 = .ok (.bipush 60, 2) := by decide +kernel
theorem dX8_seenSign_14 : decode cX8_seenSign 14 = .ok (.ireturn, 1) := by decide +kernel
theorem dX8_seenSign_15 : decode cX8_seenSign 15 = .ok (.aload_n 0, 1) := by decide +kernel
theorem dX8_seenSign_16 : decode cX8_seenSign 16 = .ok (.getfield 18, 3) := by decide +kernel
theorem dX8_seenSign_19 : decode cX8_seenSign 19 = .ok (.bipush 62, 2) := by decide +kernel
theorem dX8_seenSign_21 : decode cX8_seenSign 21 = .ok (.invokevirtual 80, 3) := by decide +kernel
theorem dX8_seenSign_24 : decode cX8_seenSign 24 = .ok (.ifCond .eq 8, 3) := by decide +kernel
theorem dX8_seenSign_27 : decode cX8_seenSign 27 = .ok (.bipush 62, 2) := by decide +kernel
theorem dX8_seenSign_29 : decode cX8_seenSign 29 = .ok (.goto 5, 3) := by decide +kernel
theorem dX8_seenSign_32 : decode cX8_seenSign 32 = .ok (.bipush 61, 2) := by decide +kernel
theorem dX8_seenSign_34 : decode cX8_seenSign 34 = .ok (.ireturn, 1) := by decide +kernel
set_option maxRecDepth 20000 in
theorem ggX8_seenSign_X6_seesSign : GoodIn wsX8_seenSign wsX6_seesSign := goodIn_r _ [6, 7, 11, 12, 13, 14, 15, 16, 17, 18, 19, 20] rfl (by decide +kernel)
set_option maxRecDepth 20000 in
theorem gX8_seenSign_X6_seesSign : GoodIn wsX8_seenSign (wsV RX8 80 RX6 yX6_seesSign wsX6_seesSign) := goodIn_app (goodIn_of _ (by decide +kernel)) ggX8_seenSign_X6_seesSign
set_option maxHeartbeats 4000000 in
set_option maxRecDepth 100000 in
theorem s_X8_seenSign (l : Launch) (D : va_G) (ca : Nat → ClassId) (sz : Nat) (h0 : Nat) (h0_draft : Nat) (h0_ones : Int32) (h0_reader : Nat) (h0_reader_bytes : Nat) (h0_reader_length : Int32) (h0_reader_faultKind : Int32) (h0_reader_faultAt : Int32) (h0_reader_letters : Int64) (h0_reader_mostBytes : Int32) (h0_reader_behind : Int32) (h0_reader_at : Int32) (h0_reader_kind : Int32) (h0_reader_number : Int32) (i_h0_reader_length : rg 0 940 h0_reader_length) (i_h0_reader_faultKind : rg 0 4 h0_reader_faultKind) (i_h0_reader_behind : rg 0 940 h0_reader_behind) : oMet l yX8_seenSign wsX8_seenSign ({ frames := 1, cells := 0, slots := 0, locals := 21 } : Room) [.ref h0] D ca sz [(h0, .inr (8, [.ref h0_draft, .int h0_ones, .ref h0_reader])), (h0_reader, .inr (6, [.ref h0_reader_bytes, .int h0_reader_length, .int h0_reader_faultKind, .int h0_reader_faultAt, .long h0_reader_letters, .int h0_reader_mostBytes, .int h0_reader_behind, .int h0_reader_at, .int h0_reader_kind, .int h0_reader_number]))] (oQi D (fun (r : Int32) (u : Unit) => (rg 60 62 r)) (fun (u : Unit) => [(h0, .inr (8, [.ref h0_draft, .int h0_ones, .ref h0_reader])), (h0_reader, .inr (6, [.ref h0_reader_bytes, .int h0_reader_length, .int h0_reader_faultKind, .int h0_reader_faultAt, .long h0_reader_letters, .int h0_reader_mostBytes, .int h0_reader_behind, .int h0_reader_at, .int h0_reader_kind, .int h0_reader_number]))])) 0 0 := by
  refine oM (cc := cX8_seenSign) (maxL := 1) (ret := (some .int)) (by decide) rfl (Nat.le_of_ble_eq_true rfl) [(0, .ref h0)] rfl ?_
  intro p e s m below meth c A H locs ls hx hb hr hml hts hown hlocks hin hK hP hD hA hS hl
  have hown : s.vm.findClass RX8 = some m.cls := hown
  have k1 := hts (.fieldLink RX8 18 "LidCourt$SentenceReader" "reader" "LLidCourt$Reader;") (by decide +kernel)
  have k2 : ∀ w ∈ wsX80, w ∈ wsX8_seenSign := fun _ h => List.mem_cons_of_mem _ (List.mem_append_left _ (List.mem_append_right _ h))
  refine lv_aload_n hx hb dX8_seenSign_0 rfl (lv_at hl 0 rfl) ?_
  refine va_get (D := D) (ci := 8) (v := .ref h0_reader) (C := RX8) (T := TX8) (N := 3) hx hb hts k2 hown hK.1 hP 0 rfl rfl 2 (by decide) k1 (fun _ h9 => h9) rfl dX8_seenSign_1 ?_
  refine lv_bipush (v := 60) hx hb dX8_seenSign_4 (by decide) ?_
  refine oC_i (Wc := [(h0_reader, .inr (6, [.ref h0_reader_bytes, .int h0_reader_length, .int h0_reader_faultKind, .int h0_reader_faultAt, .long h0_reader_letters, .int h0_reader_mostBytes, .int h0_reader_behind, .int h0_reader_at, .int h0_reader_kind, .int h0_reader_number]))]) (Wr := [(h0, .inr (8, [.ref h0_draft, .int h0_ones, .ref h0_reader]))]) (va_runV (As := [.int 60]) (rest := []) ⟨hx, hb, hml, hown, hts⟩ (s_X6_seesSign l D ca H.size h0_reader 60 h0_reader_bytes h0_reader_length h0_reader_faultKind h0_reader_faultAt h0_reader_letters h0_reader_mostBytes h0_reader_behind h0_reader_at h0_reader_kind h0_reader_number i_h0_reader_length i_h0_reader_faultKind i_h0_reader_behind) (cwV 1 hts gX8_seenSign_X6_seesSign rfl rfl rfl (by decide +kernel) ⟨Nat.le_of_ble_eq_true rfl, Nat.le_of_ble_eq_true rfl⟩) (oPV (C := RX6) hK hP hD [1] rfl (by decide) 0 rfl (ci := 6) rfl rfl) rfl rfl hl.1 rfl (lv_room (Nat.le_of_ble_eq_true rfl)) dX8_seenSign_6 ⟨Nat.le_of_ble_eq_true rfl, Nat.le_of_ble_eq_true rfl⟩) hP hD hS hA [1] [0] rfl rfl (by decide) (by decide) (fun r_17 u H locs w_18 hP hD hS => ?_)
  obtain ⟨⟩ := u
  have hP : va_P D vwCl [(h0, .inr (8, [.ref h0_draft, .int h0_ones, .ref h0_reader])), (h0_reader, .inr (6, [.ref h0_reader_bytes, .int h0_reader_length, .int h0_reader_faultKind, .int h0_reader_faultAt, .long h0_reader_letters, .int h0_reader_mostBytes, .int h0_reader_behind, .int h0_reader_at, .int h0_reader_kind, .int h0_reader_number]))] H := hP
  have hD : va_D A [(h0, .inr (8, [.ref h0_draft, .int h0_ones, .ref h0_reader])), (h0_reader, .inr (6, [.ref h0_reader_bytes, .int h0_reader_length, .int h0_reader_faultKind, .int h0_reader_faultAt, .long h0_reader_letters, .int h0_reader_mostBytes, .int h0_reader_behind, .int h0_reader_at, .int h0_reader_kind, .int h0_reader_number]))] := hD
  try dsimp only at w_18
  rcases w_18 with h_19 | ⟨h_20, h_21, h_22⟩
  · skip
    subst h_19
    refine lv_if_eq (tgt := 15) hx hb dX8_seenSign_9 (by decide) (fun _ => ?_) (fun c => absurd (by decide) c)
    refine lv_aload_n hx hb dX8_seenSign_15 rfl (lv_at hl 0 rfl) ?_
    refine va_get (D := D) (ci := 8) (v := .ref h0_reader) (C := RX8) (T := TX8) (N := 3) hx hb hts k2 hown hK.1 hP 0 rfl rfl 2 (by decide) k1 (fun _ h9 => h9) rfl dX8_seenSign_16 ?_
    refine lv_bipush (v := 62) hx hb dX8_seenSign_19 (by decide) ?_
    refine oC_i (Wc := [(h0_reader, .inr (6, [.ref h0_reader_bytes, .int h0_reader_length, .int h0_reader_faultKind, .int h0_reader_faultAt, .long h0_reader_letters, .int h0_reader_mostBytes, .int h0_reader_behind, .int h0_reader_at, .int h0_reader_kind, .int h0_reader_number]))]) (Wr := [(h0, .inr (8, [.ref h0_draft, .int h0_ones, .ref h0_reader]))]) (va_runV (As := [.int 62]) (rest := []) ⟨hx, hb, hml, hown, hts⟩ (s_X6_seesSign l D ca H.size h0_reader 62 h0_reader_bytes h0_reader_length h0_reader_faultKind h0_reader_faultAt h0_reader_letters h0_reader_mostBytes h0_reader_behind h0_reader_at h0_reader_kind h0_reader_number i_h0_reader_length i_h0_reader_faultKind i_h0_reader_behind) (cwV 1 hts gX8_seenSign_X6_seesSign rfl rfl rfl (by decide +kernel) ⟨Nat.le_of_ble_eq_true rfl, Nat.le_of_ble_eq_true rfl⟩) (oPV (C := RX6) hK hP hD [1] rfl (by decide) 0 rfl (ci := 6) rfl rfl) rfl rfl hl.1 rfl (lv_room (Nat.le_of_ble_eq_true rfl)) dX8_seenSign_21 ⟨Nat.le_of_ble_eq_true rfl, Nat.le_of_ble_eq_true rfl⟩) hP hD hS hA [1] [0] rfl rfl (by decide) (by decide) (fun r_23 u H locs w_24 hP hD hS => ?_)
    obtain ⟨⟩ := u
    have hP : va_P D vwCl [(h0, .inr (8, [.ref h0_draft, .int h0_ones, .ref h0_reader])), (h0_reader, .inr (6, [.ref h0_reader_bytes, .int h0_reader_length, .int h0_reader_faultKind, .int h0_reader_faultAt, .long h0_reader_letters, .int h0_reader_mostBytes, .int h0_reader_behind, .int h0_reader_at, .int h0_reader_kind, .int h0_reader_number]))] H := hP
    have hD : va_D A [(h0, .inr (8, [.ref h0_draft, .int h0_ones, .ref h0_reader])), (h0_reader, .inr (6, [.ref h0_reader_bytes, .int h0_reader_length, .int h0_reader_faultKind, .int h0_reader_faultAt, .long h0_reader_letters, .int h0_reader_mostBytes, .int h0_reader_behind, .int h0_reader_at, .int h0_reader_kind, .int h0_reader_number]))] := hD
    try dsimp only at w_24
    rcases w_24 with h_25 | ⟨h_26, h_27, h_28⟩
    · skip
      subst h_25
      refine lv_if_eq (tgt := 32) hx hb dX8_seenSign_24 (by decide) (fun _ => ?_) (fun c => absurd (by decide) c)
      refine lv_bipush (v := 61) hx hb dX8_seenSign_32 (by decide) ?_
      exact oE_i hx hb hr rfl hlocks hP hD hS () [0, 1] rfl (by decide) (⟨by decide, by decide⟩ : rg 60 62 (61 : Int32)) (Nat.le_of_ble_eq_true rfl) (Nat.le_of_ble_eq_true rfl) dX8_seenSign_34
    · skip
      subst h_26
      have h_29 : rg 62 2147483647 h0_reader_kind := rl_y h_27 (⟨by decide, by decide⟩ : rg 62 62 (62 : Int32)) (rga h0_reader_kind) (by decide) (by decide)
      have h_30 : rg 62 62 h0_reader_kind := rl_x h_28 h_29 (⟨by decide, by decide⟩ : rg 62 62 (62 : Int32)) (by decide) (by decide)
      refine lv_if_eq (tgt := 32) hx hb dX8_seenSign_24 (by decide) (fun c => absurd c (by decide)) (fun _ => ?_)
      refine lv_bipush (v := 62) hx hb dX8_seenSign_27 (by decide) ?_
      refine lv_goto (tgt := 34) hx hb dX8_seenSign_29 (by decide) ?_
      exact oE_i hx hb hr rfl hlocks hP hD hS () [0, 1] rfl (by decide) (⟨by decide, by decide⟩ : rg 60 62 (62 : Int32)) (Nat.le_of_ble_eq_true rfl) (Nat.le_of_ble_eq_true rfl) dX8_seenSign_34
  · skip
    subst h_20
    have h_31 : rg 60 2147483647 h0_reader_kind := rl_y h_21 (⟨by decide, by decide⟩ : rg 60 60 (60 : Int32)) (rga h0_reader_kind) (by decide) (by decide)
    have h_32 : rg 60 60 h0_reader_kind := rl_x h_22 h_31 (⟨by decide, by decide⟩ : rg 60 60 (60 : Int32)) (by decide) (by decide)
    refine lv_if_eq (tgt := 15) hx hb dX8_seenSign_9 (by decide) (fun c => absurd c (by decide)) (fun _ => ?_)
    refine lv_bipush (v := 60) hx hb dX8_seenSign_12 (by decide) ?_
    exact oE_i hx hb hr rfl hlocks hP hD hS () [0, 1] rfl (by decide) (⟨by decide, by decide⟩ : rg 60 62 (60 : Int32)) (Nat.le_of_ble_eq_true rfl) (Nat.le_of_ble_eq_true rfl) dX8_seenSign_14
theorem dX8_readPlain_0 : decode cX8_readPlain 0 = .ok (.iconst 0, 1) := by decide +kernel
theorem dX8_readPlain_1 : decode cX8_readPlain 1 = .ok (.istore_n 3, 1) := by decide +kernel
theorem dX8_readPlain_2 : decode cX8_readPlain 2 = .ok (.iconst 0, 1) := by decide +kernel
theorem dX8_readPlain_3 : decode cX8_readPlain 3 = .ok (.istore 4, 2) := by decide +kernel
theorem dX8_readPlain_5 : decode cX8_readPlain 5 = .ok (.aload_n 2, 1) := by decide +kernel
theorem dX8_readPlain_6 : decode cX8_readPlain 6 = .ok (.getstatic 113, 3) := by decide +kernel
theorem dX8_readPlain_9 : decode cX8_readPlain 9 = .ok (.if_acmp .ne 45, 3) := by decide +kernel
theorem dX8_readPlain_12 : decode cX8_readPlain 12 = .ok (.aload_n 0, 1) := by decide +kernel
theorem dX8_readPlain_13 : decode cX8_readPlain 13 = .ok (.getfield 18, 3) := by decide +kernel
theorem dX8_readPlain_16 : decode cX8_readPlain 16 = .ok (.aload_n 1, 1) := by decide +kernel
theorem dX8_readPlain_17 : decode cX8_readPlain 17 = .ok (.aload_n 0, 1) := by decide +kernel
theorem dX8_readPlain_18 : decode cX8_readPlain 18 = .ok (.getfield 18, 3) := by decide +kernel
theorem dX8_readPlain_21 : decode cX8_readPlain 21 = .ok (.getfield 131, 3) := by decide +kernel
theorem dX8_readPlain_24 : decode cX8_readPlain 24 = .ok (.invokevirtual 135, 3) := by decide +kernel
theorem dX8_readPlain_27 : decode cX8_readPlain 27 = .ok (.invokevirtual 141, 3) := by decide +kernel
theorem dX8_readPlain_30 : decode cX8_readPlain 30 = .ok (.istore_n 3, 1) := by decide +kernel
theorem dX8_readPlain_31 : decode cX8_readPlain 31 = .ok (.aload_n 0, 1) := by decide +kernel
theorem dX8_readPlain_32 : decode cX8_readPlain 32 = .ok (.getfield 18, 3) := by decide +kernel
theorem dX8_readPlain_35 : decode cX8_readPlain 35 = .ok (.aload_n 1, 1) := by decide +kernel
theorem dX8_readPlain_36 : decode cX8_readPlain 36 = .ok (.aload_n 0, 1) := by decide +kernel
theorem dX8_readPlain_37 : decode cX8_readPlain 37 = .ok (.getfield 18, 3) := by decide +kernel
theorem dX8_readPlain_40 : decode cX8_readPlain 40 = .ok (.getfield 131, 3) := by decide +kernel
theorem dX8_readPlain_43 : decode cX8_readPlain 43 = .ok (.invokevirtual 145, 3) := by decide +kernel
theorem dX8_readPlain_46 : decode cX8_readPlain 46 = .ok (.invokevirtual 141, 3) := by decide +kernel
theorem dX8_readPlain_49 : decode cX8_readPlain 49 = .ok (.istore 4, 2) := by decide +kernel
theorem dX8_readPlain_51 : decode cX8_readPlain 51 = .ok (.goto 36, 3) := by decide +kernel
theorem dX8_readPlain_54 : decode cX8_readPlain 54 = .ok (.aload_n 2, 1) := by decide +kernel
theorem dX8_readPlain_55 : decode cX8_readPlain 55 = .ok (.invokestatic 116, 3) := by decide +kernel
theorem dX8_readPlain_58 : decode cX8_readPlain 58 = .ok (.ifCond .eq 29, 3) := by decide +kernel
theorem dX8_readPlain_61 : decode cX8_readPlain 61 = .ok (.aload_n 0, 1) := by decide +kernel
theorem dX8_readPlain_62 : decode cX8_readPlain 62 = .ok (.invokevirtual 148, 3) := by decide +kernel
theorem dX8_readPlain_65 : decode cX8_readPlain 65 = .ok (.istore_n 3, 1) := by decide +kernel
theorem dX8_readPlain_66 : decode cX8_readPlain 66 = .ok (.aload_n 0, 1) := by decide +kernel
theorem dX8_readPlain_67 : decode cX8_readPlain 67 = .ok (.getfield 18, 3) := by decide +kernel
theorem dX8_readPlain_70 : decode cX8_readPlain 70 = .ok (.iload_n 3, 1) := by decide +kernel
theorem dX8_readPlain_71 : decode cX8_readPlain 71 = .ok (.invokevirtual 90, 3) := by decide +kernel
theorem dX8_readPlain_74 : decode cX8_readPlain 74 = .ok (.aload_n 0, 1) := by decide +kernel
theorem dX8_readPlain_75 : decode cX8_readPlain 75 = .ok (.getfield 18, 3) := by decide +kernel
theorem dX8_readPlain_78 : decode cX8_readPlain 78 = .ok (.iconst 0, 1) := by decide +kernel
theorem dX8_readPlain_79 : decode cX8_readPlain 79 = .ok (.sipush 999, 3) := by decide +kernel
theorem dX8_readPlain_82 : decode cX8_readPlain 82 = .ok (.invokevirtual 152, 3) := by decide +kernel
theorem dX8_readPlain_85 : decode cX8_readPlain 85 = .ok (.istore 4, 2) := by decide +kernel
theorem dX8_readPlain_87 : decode cX8_readPlain 87 = .ok (.aload_n 0, 1) := by decide +kernel
theorem dX8_readPlain_88 : decode cX8_readPlain 88 = .ok (.getfield 12, 3) := by decide +kernel
theorem dX8_readPlain_91 : decode cX8_readPlain 91 = .ok (.aload_n 2, 1) := by decide +kernel
theorem dX8_readPlain_92 : decode cX8_readPlain 92 = .ok (.iload_n 3, 1) := by decide +kernel
theorem dX8_readPlain_93 : decode cX8_readPlain 93 = .ok (.iload 4, 2) := by decide +kernel
theorem dX8_readPlain_95 : decode cX8_readPlain 95 = .ok (.invokevirtual 60, 3) := by decide +kernel
theorem dX8_readPlain_98 : decode cX8_readPlain 98 = .ok (.return_, 1) := by decide +kernel
set_option maxRecDepth 20000 in
theorem ggX8_readPlain_X8_isMeasure : GoodIn wsX8_readPlain wsX8_isMeasure := goodIn_r _ [68, 69, 70, 71, 72] rfl (by decide +kernel)
set_option maxRecDepth 20000 in
theorem gX8_readPlain_X8_isMeasure : GoodIn wsX8_readPlain (va_wsS RX8 116 yX8_isMeasure wsX8_isMeasure) := goodIn_app (goodIn_of _ (by decide +kernel)) ggX8_readPlain_X8_isMeasure
set_option maxRecDepth 20000 in
theorem ggX8_readPlain_X8_seenSign : GoodIn wsX8_readPlain wsX8_seenSign := goodIn_r _ [76, 2, 77, 78, 79, 18, 80, 24, 99, 100, 101, 102, 103, 104, 105, 106, 107, 108, 109, 110, 111] rfl (by decide +kernel)
set_option maxRecDepth 20000 in
theorem gX8_readPlain_X8_seenSign : GoodIn wsX8_readPlain (wsV RX8 148 RX8 yX8_seenSign wsX8_seenSign) := goodIn_app (goodIn_of _ (by decide +kernel)) ggX8_readPlain_X8_seenSign
set_option maxRecDepth 20000 in
theorem ggX8_readPlain_X6_takeSign : GoodIn wsX8_readPlain wsX6_takeSign := goodIn_r _ [84, 85, 78, 79, 18, 80, 24, 38, 39, 40, 41, 42, 43, 44, 45, 46, 47, 48, 49, 25, 32, 34, 35, 36, 37, 31, 50, 51, 52, 53, 54, 55, 56, 57, 58, 27, 28, 29, 30, 33, 102, 103, 104, 105, 106, 107, 108, 109, 110, 111] rfl (by decide +kernel)
set_option maxRecDepth 20000 in
theorem gX8_readPlain_X6_takeSign : GoodIn wsX8_readPlain (wsV RX8 90 RX6 yX6_takeSign wsX6_takeSign) := goodIn_app (goodIn_of _ (by decide +kernel)) ggX8_readPlain_X6_takeSign
set_option maxRecDepth 20000 in
theorem ggX8_readPlain_X6_takeNumber : GoodIn wsX8_readPlain wsX6_takeNumber := goodIn_r _ [89, 24, 54, 27, 28, 29, 18, 30, 31, 32, 33, 25, 34, 35, 36, 37, 38, 39, 40, 41, 42, 43, 44, 45, 46, 47, 48, 49, 50, 51, 52, 53, 55, 56, 57, 58, 102, 103, 104, 105, 106, 107, 108, 109, 110, 111] rfl (by decide +kernel)
set_option maxRecDepth 20000 in
theorem gX8_readPlain_X6_takeNumber : GoodIn wsX8_readPlain (wsV RX8 152 RX6 yX6_takeNumber wsX6_takeNumber) := goodIn_app (goodIn_of _ (by decide +kernel)) ggX8_readPlain_X6_takeNumber
set_option maxRecDepth 20000 in
theorem ggX8_readPlain_X5_floorNamed : GoodIn wsX8_readPlain wsX5_floorNamed := goodIn_r _ [9, 10, 11, 12, 13, 8, 14, 112, 113, 114, 115, 116, 117, 118, 119, 120, 121, 122, 123, 124, 125, 126, 127] rfl (by decide +kernel)
set_option maxRecDepth 20000 in
theorem gX8_readPlain_X5_floorNamed : GoodIn wsX8_readPlain (wsV RX8 135 RX5 yX5_floorNamed wsX5_floorNamed) := goodIn_app (goodIn_of _ (by decide +kernel)) ggX8_readPlain_X5_floorNamed
set_option maxRecDepth 20000 in
theorem ggX8_readPlain_X6_takeFound : GoodIn wsX8_readPlain wsX6_takeFound := goodIn_r _ [19, 20, 21, 22, 18, 23, 24, 25, 26, 27, 28, 29, 30, 31, 32, 33, 34, 35, 36, 37, 38, 39, 40, 41, 42, 43, 44, 45, 46, 47, 48, 49, 50, 51, 52, 53, 54, 55, 56, 57, 58, 102, 103, 104, 105, 106, 107, 108, 109, 110, 111] rfl (by decide +kernel)
set_option maxRecDepth 20000 in
theorem gX8_readPlain_X6_takeFound : GoodIn wsX8_readPlain (wsV RX8 141 RX6 yX6_takeFound wsX6_takeFound) := goodIn_app (goodIn_of _ (by decide +kernel)) ggX8_readPlain_X6_takeFound
set_option maxRecDepth 20000 in
theorem ggX8_readPlain_X5_jurorNamed : GoodIn wsX8_readPlain wsX5_jurorNamed := goodIn_r _ [62, 63, 64, 12, 13, 8, 14, 112, 113, 114, 115, 116, 117, 118, 119, 120, 121, 122, 123, 124, 125, 126, 127] rfl (by decide +kernel)
set_option maxRecDepth 20000 in
theorem gX8_readPlain_X5_jurorNamed : GoodIn wsX8_readPlain (wsV RX8 145 RX5 yX5_jurorNamed wsX5_jurorNamed) := goodIn_app (goodIn_of _ (by decide +kernel)) ggX8_readPlain_X5_jurorNamed
set_option maxRecDepth 20000 in
theorem ggX8_readPlain_X7_add : GoodIn wsX8_readPlain wsX7_add := goodIn_r _ [94, 95, 96, 97, 98, 128, 129, 130, 131, 132, 133] rfl (by decide +kernel)
set_option maxRecDepth 20000 in
theorem gX8_readPlain_X7_add : GoodIn wsX8_readPlain (wsV RX8 60 RX7 yX7_add wsX7_add) := goodIn_app (goodIn_of _ (by decide +kernel)) ggX8_readPlain_X7_add
set_option maxHeartbeats 4000000 in
set_option maxRecDepth 100000 in
theorem s_X8_readPlain (l : Launch) (D : va_G) (ca : Nat → ClassId) (ad : Nat → Nat) (wt : Nat) (sz : Nat) (h0 : Nat) (r1 : Nat) (h0_draft : Nat) (h0_ones : Int32) (h0_reader : Nat) (h0_reader_bytes : Nat) (h0_reader_length : Int32) (h0_reader_faultKind : Int32) (h0_reader_faultAt : Int32) (h0_reader_letters : Int64) (h0_reader_mostBytes : Int32) (h0_reader_behind : Int32) (h0_reader_at : Int32) (h0_reader_kind : Int32) (h0_reader_number : Int32) (F_h0_reader_bytes : Nat → Int32) (r1_jurors : Int32) (r1_floors : Int32) (r1_cases : Int32) (r1_one : Int32) (r1_dent : Int32) (r1_seated : Int32) (r1_jurorName : Nat) (r1_floorName : Nat) (r1_caseName : Nat) (r1_pitch : Nat) (r1_length : Nat) (r1_hands : Nat) (r1_tune : Nat) (r1_dull : Nat) (r1_caseFloor : Nat) (r1_tuned : Nat) (F_r1_floorName : Nat → Int64) (F_r1_jurorName : Nat → Int64) (h0_draft_present : Int32) (h0_draft_steps : Int32) (h0_draft_word : Nat) (h0_draft_first : Nat) (h0_draft_second : Nat) (h0_draft_sets : Nat) (F_h0_draft_word : Nat → Option Nat) (F_h0_draft_first : Nat → Int32) (F_h0_draft_second : Nat → Int32) (kw2 : Nat) (i_h0_reader_length : rg 0 940 h0_reader_length) (i_h0_reader_faultKind : rg 0 4 h0_reader_faultKind) (i_h0_reader_behind : rg 0 940 h0_reader_behind) (i_r1_jurors : rg 0 10 r1_jurors) (i_r1_floors : rg 0 4 r1_floors) (i_r1_cases : rg 0 5 r1_cases) (i_r1_seated : rg 0 1023 r1_seated) (i_h0_draft_present : rg 0 1 h0_draft_present) (i_h0_draft_steps : rg 0 40 h0_draft_steps) (s_h0_reader_bytes_0 : sg 0 940 0 255 F_h0_reader_bytes) (hkw2 : kw2 < 26) : sMet l yX8_readPlain wsX8_readPlain ({ frames := 3, cells := 0, slots := 0, locals := 67 } : Room) [.ref h0, .ref r1, .ref (ad kw2)] D ca ad wt sz [(h0, .inr (8, [.ref h0_draft, .int h0_ones, .ref h0_reader])), (h0_reader, .inr (6, [.ref h0_reader_bytes, .int h0_reader_length, .int h0_reader_faultKind, .int h0_reader_faultAt, .long h0_reader_letters, .int h0_reader_mostBytes, .int h0_reader_behind, .int h0_reader_at, .int h0_reader_kind, .int h0_reader_number])), (aI ca h0_reader_bytes 940 F_h0_reader_bytes), (r1, .inr (5, [.int r1_jurors, .int r1_floors, .int r1_cases, .int r1_one, .int r1_dent, .int r1_seated, .ref r1_jurorName, .ref r1_floorName, .ref r1_caseName, .ref r1_pitch, .ref r1_length, .ref r1_hands, .ref r1_tune, .ref r1_dull, .ref r1_caseFloor, .ref r1_tuned])), (aJ ca r1_floorName 4 F_r1_floorName), (aJ ca r1_jurorName 10 F_r1_jurorName), (h0_draft, .inr (7, [.int h0_draft_present, .int h0_draft_steps, .ref h0_draft_word, .ref h0_draft_first, .ref h0_draft_second, .ref h0_draft_sets])), (aW ca h0_draft_word 40 F_h0_draft_word), (aI ca h0_draft_first 40 F_h0_draft_first), (aI ca h0_draft_second 40 F_h0_draft_second)] (oQv D (fun (u : Int32 × Int32 × Int64 × Int32 × Int32 × Int32 × Int32 × Int32 × (Nat → Option Nat) × (Nat → Int32) × (Nat → Int32)) => (rg 0 4 u.1) ∧ (rg 0 940 u.2.2.2.1) ∧ (rg 1 40 u.2.2.2.2.2.2.2.1) ∧ (rl 0 h0_draft_steps u.2.2.2.2.2.2.2.1) ∧ (rl (-1) u.2.2.2.2.2.2.2.1 h0_draft_steps)) (fun (u : Int32 × Int32 × Int64 × Int32 × Int32 × Int32 × Int32 × Int32 × (Nat → Option Nat) × (Nat → Int32) × (Nat → Int32)) => [(h0, .inr (8, [.ref h0_draft, .int h0_ones, .ref h0_reader])), (h0_reader, .inr (6, [.ref h0_reader_bytes, .int h0_reader_length, .int u.1, .int u.2.1, .long u.2.2.1, .int h0_reader_mostBytes, .int u.2.2.2.1, .int u.2.2.2.2.1, .int u.2.2.2.2.2.1, .int u.2.2.2.2.2.2.1])), (aI ca h0_reader_bytes 940 F_h0_reader_bytes), (r1, .inr (5, [.int r1_jurors, .int r1_floors, .int r1_cases, .int r1_one, .int r1_dent, .int r1_seated, .ref r1_jurorName, .ref r1_floorName, .ref r1_caseName, .ref r1_pitch, .ref r1_length, .ref r1_hands, .ref r1_tune, .ref r1_dull, .ref r1_caseFloor, .ref r1_tuned])), (aJ ca r1_floorName 4 F_r1_floorName), (aJ ca r1_jurorName 10 F_r1_jurorName), (h0_draft, .inr (7, [.int h0_draft_present, .int u.2.2.2.2.2.2.2.1, .ref h0_draft_word, .ref h0_draft_first, .ref h0_draft_second, .ref h0_draft_sets])), (aW ca h0_draft_word 40 u.2.2.2.2.2.2.2.2.1), (aI ca h0_draft_first 40 u.2.2.2.2.2.2.2.2.2.1), (aI ca h0_draft_second 40 u.2.2.2.2.2.2.2.2.2.2)])) 0 0 := by
  refine sM (cc := cX8_readPlain) (maxL := 5) (ret := none) (by decide) rfl (Nat.le_of_ble_eq_true rfl) [(0, .ref h0), (1, .ref r1), (2, .ref (ad kw2))] rfl ?_
  intro p e s m below meth c A H locs ls hx hb hr hml hts hown hlocks hin hK hP hD hA hS hl hZ
  have hown : s.vm.findClass RX8 = some m.cls := hown
  have hE := hZ.2.2.2.2.2.1
  have k1 := hts (.fieldLink RX8 12 "LidCourt$SentenceReader" "draft" "LLidCourt$Saying;") (by decide +kernel)
  have k2 : ∀ w ∈ wsX80, w ∈ wsX8_readPlain := fun _ h => List.mem_cons_of_mem _ (List.mem_append_left _ (List.mem_append_left _ (List.mem_append_left _ (List.mem_append_right _ h))))
  have k3 := hts (.fieldLink RX8 113 "LidCourt$Word" "RINGS" "LLidCourt$Word;") (by decide +kernel)
  have k4 := hts (.fieldLink RX8 18 "LidCourt$SentenceReader" "reader" "LLidCourt$Reader;") (by decide +kernel)
  have k5 := hts (.fieldLink RX8 131 "LidCourt$Reader" "letters" "J") (by decide +kernel)
  have k6 : ∀ w ∈ wsX60, w ∈ wsX8_readPlain := fun _ h => List.mem_cons_of_mem _ (List.mem_append_left _ (List.mem_append_left _ (List.mem_append_right _ h)))
  have J87_118 : ∀ (y87_0 : Int32) (y87_1 : Int32) (y87_2 : Int32) (y87_3 : Int32) (y87_4 : Int64) (y87_5 : Int32) (y87_6 : Int32) (y87_7 : Int32) (y87_8 : Int32), rg (-1) 62 y87_0 → rg 0 4 y87_2 → rg 0 940 y87_5 → ∀ (H : Heap) (locs : List Loc) (ls : Array Slot), va_P D vwCl [(h0, .inr (8, [.ref h0_draft, .int h0_ones, .ref h0_reader])), (h0_reader, .inr (6, [.ref h0_reader_bytes, .int h0_reader_length, .int y87_2, .int y87_3, .long y87_4, .int h0_reader_mostBytes, .int y87_5, .int y87_6, .int y87_7, .int y87_8])), (aI ca h0_reader_bytes 940 F_h0_reader_bytes), (r1, .inr (5, [.int r1_jurors, .int r1_floors, .int r1_cases, .int r1_one, .int r1_dent, .int r1_seated, .ref r1_jurorName, .ref r1_floorName, .ref r1_caseName, .ref r1_pitch, .ref r1_length, .ref r1_hands, .ref r1_tune, .ref r1_dull, .ref r1_caseFloor, .ref r1_tuned])), (aJ ca r1_floorName 4 F_r1_floorName), (aJ ca r1_jurorName 10 F_r1_jurorName), (h0_draft, .inr (7, [.int h0_draft_present, .int h0_draft_steps, .ref h0_draft_word, .ref h0_draft_first, .ref h0_draft_second, .ref h0_draft_sets])), (aW ca h0_draft_word 40 F_h0_draft_word), (aI ca h0_draft_first 40 F_h0_draft_first), (aI ca h0_draft_second 40 F_h0_draft_second)] H → va_D A [(h0, .inr (8, [.ref h0_draft, .int h0_ones, .ref h0_reader])), (h0_reader, .inr (6, [.ref h0_reader_bytes, .int h0_reader_length, .int y87_2, .int y87_3, .long y87_4, .int h0_reader_mostBytes, .int y87_5, .int y87_6, .int y87_7, .int y87_8])), (aI ca h0_reader_bytes 940 F_h0_reader_bytes), (r1, .inr (5, [.int r1_jurors, .int r1_floors, .int r1_cases, .int r1_one, .int r1_dent, .int r1_seated, .ref r1_jurorName, .ref r1_floorName, .ref r1_caseName, .ref r1_pitch, .ref r1_length, .ref r1_hands, .ref r1_tune, .ref r1_dull, .ref r1_caseFloor, .ref r1_tuned])), (aJ ca r1_floorName 4 F_r1_floorName), (aJ ca r1_jurorName 10 F_r1_jurorName), (h0_draft, .inr (7, [.int h0_draft_present, .int h0_draft_steps, .ref h0_draft_word, .ref h0_draft_first, .ref h0_draft_second, .ref h0_draft_sets])), (aW ca h0_draft_word 40 F_h0_draft_word), (aI ca h0_draft_first 40 F_h0_draft_first), (aI ca h0_draft_second 40 F_h0_draft_second)] → va_S A s.heap H locs → lv_has ls 5 [(0, .ref h0), (2, .ref (ad kw2)), (3, .int y87_0), (4, .int y87_1)] → W p l e ({ frames := 3, cells := 0, slots := 0, locals := 67 } : Room) s m ([.ref h0, .ref r1, .ref (ad kw2)] : List Value).toArray below meth c H locs 0 0 (MQ below ((oQv D (fun (u : Int32 × Int32 × Int64 × Int32 × Int32 × Int32 × Int32 × Int32 × (Nat → Option Nat) × (Nat → Int32) × (Nat → Int32)) => (rg 0 4 u.1) ∧ (rg 0 940 u.2.2.2.1) ∧ (rg 1 40 u.2.2.2.2.2.2.2.1) ∧ (rl 0 h0_draft_steps u.2.2.2.2.2.2.2.1) ∧ (rl (-1) u.2.2.2.2.2.2.2.1 h0_draft_steps)) (fun (u : Int32 × Int32 × Int64 × Int32 × Int32 × Int32 × Int32 × Int32 × (Nat → Option Nat) × (Nat → Int32) × (Nat → Int32)) => [(h0, .inr (8, [.ref h0_draft, .int h0_ones, .ref h0_reader])), (h0_reader, .inr (6, [.ref h0_reader_bytes, .int h0_reader_length, .int u.1, .int u.2.1, .long u.2.2.1, .int h0_reader_mostBytes, .int u.2.2.2.1, .int u.2.2.2.2.1, .int u.2.2.2.2.2.1, .int u.2.2.2.2.2.2.1])), (aI ca h0_reader_bytes 940 F_h0_reader_bytes), (r1, .inr (5, [.int r1_jurors, .int r1_floors, .int r1_cases, .int r1_one, .int r1_dent, .int r1_seated, .ref r1_jurorName, .ref r1_floorName, .ref r1_caseName, .ref r1_pitch, .ref r1_length, .ref r1_hands, .ref r1_tune, .ref r1_dull, .ref r1_caseFloor, .ref r1_tuned])), (aJ ca r1_floorName 4 F_r1_floorName), (aJ ca r1_jurorName 10 F_r1_jurorName), (h0_draft, .inr (7, [.int h0_draft_present, .int u.2.2.2.2.2.2.2.1, .ref h0_draft_word, .ref h0_draft_first, .ref h0_draft_second, .ref h0_draft_sets])), (aW ca h0_draft_word 40 u.2.2.2.2.2.2.2.2.1), (aI ca h0_draft_first 40 u.2.2.2.2.2.2.2.2.2.1), (aI ca h0_draft_second 40 u.2.2.2.2.2.2.2.2.2.2)])) A) ([.ref h0, .ref r1, .ref (ad kw2)] : List Value).toArray s 0 0 A) (F0 m 87 ls []) := by
    intro y87_0 y87_1 y87_2 y87_3 y87_4 y87_5 y87_6 y87_7 y87_8 hy87_0 hy87_2 hy87_5 H locs ls hP hD hS hl
    refine lv_aload_n hx hb dX8_readPlain_87 rfl (lv_at hl 0 rfl) ?_
    refine va_get (D := D) (ci := 8) (v := .ref h0_draft) (C := RX8) (T := TX8) (N := 3) hx hb hts k2 hown hK.1 hP 0 rfl rfl 0 (by decide) k1 (fun _ h9 => h9) rfl dX8_readPlain_88 ?_
    refine lv_aload_n hx hb dX8_readPlain_91 rfl (lv_at hl 1 rfl) ?_
    refine lv_iload_n hx hb dX8_readPlain_92 rfl (lv_at hl 2 rfl) ?_
    refine lv_iload hx hb dX8_readPlain_93 (lv_at hl 3 rfl) ?_
    refine oC_v (Wc := [(h0_draft, .inr (7, [.int h0_draft_present, .int h0_draft_steps, .ref h0_draft_word, .ref h0_draft_first, .ref h0_draft_second, .ref h0_draft_sets])), (aW ca h0_draft_word 40 F_h0_draft_word), (aI ca h0_draft_first 40 F_h0_draft_first), (aI ca h0_draft_second 40 F_h0_draft_second)]) (Wr := [(h0, .inr (8, [.ref h0_draft, .int h0_ones, .ref h0_reader])), (h0_reader, .inr (6, [.ref h0_reader_bytes, .int h0_reader_length, .int y87_2, .int y87_3, .long y87_4, .int h0_reader_mostBytes, .int y87_5, .int y87_6, .int y87_7, .int y87_8])), (aI ca h0_reader_bytes 940 F_h0_reader_bytes), (r1, .inr (5, [.int r1_jurors, .int r1_floors, .int r1_cases, .int r1_one, .int r1_dent, .int r1_seated, .ref r1_jurorName, .ref r1_floorName, .ref r1_caseName, .ref r1_pitch, .ref r1_length, .ref r1_hands, .ref r1_tune, .ref r1_dull, .ref r1_caseFloor, .ref r1_tuned])), (aJ ca r1_floorName 4 F_r1_floorName), (aJ ca r1_jurorName 10 F_r1_jurorName)]) (va_runV (As := [.ref (ad kw2), .int y87_0, .int y87_1]) (rest := []) ⟨hx, hb, hml, hown, hts⟩ (s_X7_add l D ca ad wt H.size h0_draft y87_0 y87_1 h0_draft_present h0_draft_steps h0_draft_word h0_draft_first h0_draft_second h0_draft_sets F_h0_draft_word F_h0_draft_first F_h0_draft_second kw2 i_h0_draft_present i_h0_draft_steps hkw2) (cwV 3 hts gX8_readPlain_X7_add rfl rfl rfl (by decide +kernel) ⟨Nat.le_of_ble_eq_true rfl, Nat.le_of_ble_eq_true rfl⟩) (sPV (C := RX7) hZ hS hA hK hP hD [6, 7, 8, 9] rfl (by decide) 0 rfl (ci := 7) rfl rfl) rfl rfl hl.1 rfl (lv_room (Nat.le_of_ble_eq_true rfl)) dX8_readPlain_95 ⟨Nat.le_of_ble_eq_true rfl, Nat.le_of_ble_eq_true rfl⟩) hP hD hS hA [6, 7, 8, 9] [0, 1, 2, 3, 4, 5] rfl rfl (by decide) (by decide) (fun u H locs w_120 hP hD hS => ?_)
    obtain ⟨u_121, u_122, u_123, u_124⟩ := u
    have hP : va_P D vwCl [(h0, .inr (8, [.ref h0_draft, .int h0_ones, .ref h0_reader])), (h0_reader, .inr (6, [.ref h0_reader_bytes, .int h0_reader_length, .int y87_2, .int y87_3, .long y87_4, .int h0_reader_mostBytes, .int y87_5, .int y87_6, .int y87_7, .int y87_8])), (aI ca h0_reader_bytes 940 F_h0_reader_bytes), (r1, .inr (5, [.int r1_jurors, .int r1_floors, .int r1_cases, .int r1_one, .int r1_dent, .int r1_seated, .ref r1_jurorName, .ref r1_floorName, .ref r1_caseName, .ref r1_pitch, .ref r1_length, .ref r1_hands, .ref r1_tune, .ref r1_dull, .ref r1_caseFloor, .ref r1_tuned])), (aJ ca r1_floorName 4 F_r1_floorName), (aJ ca r1_jurorName 10 F_r1_jurorName), (h0_draft, .inr (7, [.int h0_draft_present, .int u_121, .ref h0_draft_word, .ref h0_draft_first, .ref h0_draft_second, .ref h0_draft_sets])), (aW ca h0_draft_word 40 u_122), (aI ca h0_draft_first 40 u_123), (aI ca h0_draft_second 40 u_124)] H := hP
    have hD : va_D A [(h0, .inr (8, [.ref h0_draft, .int h0_ones, .ref h0_reader])), (h0_reader, .inr (6, [.ref h0_reader_bytes, .int h0_reader_length, .int y87_2, .int y87_3, .long y87_4, .int h0_reader_mostBytes, .int y87_5, .int y87_6, .int y87_7, .int y87_8])), (aI ca h0_reader_bytes 940 F_h0_reader_bytes), (r1, .inr (5, [.int r1_jurors, .int r1_floors, .int r1_cases, .int r1_one, .int r1_dent, .int r1_seated, .ref r1_jurorName, .ref r1_floorName, .ref r1_caseName, .ref r1_pitch, .ref r1_length, .ref r1_hands, .ref r1_tune, .ref r1_dull, .ref r1_caseFloor, .ref r1_tuned])), (aJ ca r1_floorName 4 F_r1_floorName), (aJ ca r1_jurorName 10 F_r1_jurorName), (h0_draft, .inr (7, [.int h0_draft_present, .int u_121, .ref h0_draft_word, .ref h0_draft_first, .ref h0_draft_second, .ref h0_draft_sets])), (aW ca h0_draft_word 40 u_122), (aI ca h0_draft_first 40 u_123), (aI ca h0_draft_second 40 u_124)] := hD
    try dsimp only at w_120
    obtain ⟨h_125, h_126, h_127⟩ := w_120
    exact oE_v hx hb hr hlocks hP hD hS (y87_2, y87_3, y87_4, y87_5, y87_6, y87_7, y87_8, u_121, u_122, u_123, u_124) [0, 1, 2, 3, 4, 5, 6, 7, 8, 9] rfl (by decide) ⟨hy87_2, hy87_5, h_125, (show rl 0 h0_draft_steps u_121 from rlm (by have q0 := rle h_126; have q1 := rle h_127; omega)), (show rl (-1) u_121 h0_draft_steps from rlm (by have q0 := rle h_127; have q1 := rle h_126; omega))⟩ (Nat.le_of_ble_eq_true rfl) (Nat.le_of_ble_eq_true rfl) dX8_readPlain_98
  refine lv_iconst (v := 0) hx hb dX8_readPlain_0 (by decide) ?_
  refine lv_istore_n (lv' := [(3, .int 0), (0, .ref h0), (1, .ref r1), (2, .ref (ad kw2))]) hx hb dX8_readPlain_1 rfl hl (by decide) rfl (fun ls hl => ?_)
  refine lv_iconst (v := 0) hx hb dX8_readPlain_2 (by decide) ?_
  refine lv_istore (lv' := [(4, .int 0), (3, .int 0), (0, .ref h0), (1, .ref r1), (2, .ref (ad kw2))]) hx hb dX8_readPlain_3 hl (by decide) rfl (fun ls hl => ?_)
  refine lv_aload_n hx hb dX8_readPlain_5 rfl (lv_at hl 4 rfl) ?_
  refine va_gets (v := .ref (ad 21)) hx hb (hZw hZ 21 "RINGS" (by decide) (by decide)) hS hown k3 (fun _ h9 => h9) dX8_readPlain_6 ?_
  refine lv_acmp_ne (rx := (some (ad kw2))) (ry := (some (ad 21))) (tgt := 54) hx hb dX8_readPlain_9 (by decide) (fun c_128 => ?_) (fun c_128 => ?_)
  · skip
    refine lv_aload_n hx hb dX8_readPlain_54 rfl (lv_at hl 4 rfl) ?_
    refine oC_i (Wc := []) (Wr := [(h0, .inr (8, [.ref h0_draft, .int h0_ones, .ref h0_reader])), (h0_reader, .inr (6, [.ref h0_reader_bytes, .int h0_reader_length, .int h0_reader_faultKind, .int h0_reader_faultAt, .long h0_reader_letters, .int h0_reader_mostBytes, .int h0_reader_behind, .int h0_reader_at, .int h0_reader_kind, .int h0_reader_number])), (aI ca h0_reader_bytes 940 F_h0_reader_bytes), (r1, .inr (5, [.int r1_jurors, .int r1_floors, .int r1_cases, .int r1_one, .int r1_dent, .int r1_seated, .ref r1_jurorName, .ref r1_floorName, .ref r1_caseName, .ref r1_pitch, .ref r1_length, .ref r1_hands, .ref r1_tune, .ref r1_dull, .ref r1_caseFloor, .ref r1_tuned])), (aJ ca r1_floorName 4 F_r1_floorName), (aJ ca r1_jurorName 10 F_r1_jurorName), (h0_draft, .inr (7, [.int h0_draft_present, .int h0_draft_steps, .ref h0_draft_word, .ref h0_draft_first, .ref h0_draft_second, .ref h0_draft_sets])), (aW ca h0_draft_word 40 F_h0_draft_word), (aI ca h0_draft_first 40 F_h0_draft_first), (aI ca h0_draft_second 40 F_h0_draft_second)]) (va_runS (As := [.ref (ad kw2)]) (rest := []) ⟨hx, hb, hml, hown, hts⟩ (s_X8_isMeasure l D ca ad wt H.size kw2 hkw2) (va_cwS 1 hts gX8_readPlain_X8_isMeasure rfl rfl rfl (by decide +kernel) ⟨Nat.le_of_ble_eq_true rfl, Nat.le_of_ble_eq_true rfl⟩) (sPS hZ hS hA hK hP hD [] rfl (by decide)) rfl rfl hl.1 rfl (lv_room (Nat.le_of_ble_eq_true rfl)) dX8_readPlain_55 ⟨Nat.le_of_ble_eq_true rfl, Nat.le_of_ble_eq_true rfl⟩) hP hD hS hA [] [0, 1, 2, 3, 4, 5, 6, 7, 8, 9] rfl rfl (by decide) (by decide) (fun r_129 u H locs w_130 hP hD hS => ?_)
    obtain ⟨⟩ := u
    have hP : va_P D vwCl [(h0, .inr (8, [.ref h0_draft, .int h0_ones, .ref h0_reader])), (h0_reader, .inr (6, [.ref h0_reader_bytes, .int h0_reader_length, .int h0_reader_faultKind, .int h0_reader_faultAt, .long h0_reader_letters, .int h0_reader_mostBytes, .int h0_reader_behind, .int h0_reader_at, .int h0_reader_kind, .int h0_reader_number])), (aI ca h0_reader_bytes 940 F_h0_reader_bytes), (r1, .inr (5, [.int r1_jurors, .int r1_floors, .int r1_cases, .int r1_one, .int r1_dent, .int r1_seated, .ref r1_jurorName, .ref r1_floorName, .ref r1_caseName, .ref r1_pitch, .ref r1_length, .ref r1_hands, .ref r1_tune, .ref r1_dull, .ref r1_caseFloor, .ref r1_tuned])), (aJ ca r1_floorName 4 F_r1_floorName), (aJ ca r1_jurorName 10 F_r1_jurorName), (h0_draft, .inr (7, [.int h0_draft_present, .int h0_draft_steps, .ref h0_draft_word, .ref h0_draft_first, .ref h0_draft_second, .ref h0_draft_sets])), (aW ca h0_draft_word 40 F_h0_draft_word), (aI ca h0_draft_first 40 F_h0_draft_first), (aI ca h0_draft_second 40 F_h0_draft_second)] H := hP
    have hD : va_D A [(h0, .inr (8, [.ref h0_draft, .int h0_ones, .ref h0_reader])), (h0_reader, .inr (6, [.ref h0_reader_bytes, .int h0_reader_length, .int h0_reader_faultKind, .int h0_reader_faultAt, .long h0_reader_letters, .int h0_reader_mostBytes, .int h0_reader_behind, .int h0_reader_at, .int h0_reader_kind, .int h0_reader_number])), (aI ca h0_reader_bytes 940 F_h0_reader_bytes), (r1, .inr (5, [.int r1_jurors, .int r1_floors, .int r1_cases, .int r1_one, .int r1_dent, .int r1_seated, .ref r1_jurorName, .ref r1_floorName, .ref r1_caseName, .ref r1_pitch, .ref r1_length, .ref r1_hands, .ref r1_tune, .ref r1_dull, .ref r1_caseFloor, .ref r1_tuned])), (aJ ca r1_floorName 4 F_r1_floorName), (aJ ca r1_jurorName 10 F_r1_jurorName), (h0_draft, .inr (7, [.int h0_draft_present, .int h0_draft_steps, .ref h0_draft_word, .ref h0_draft_first, .ref h0_draft_second, .ref h0_draft_sets])), (aW ca h0_draft_word 40 F_h0_draft_word), (aI ca h0_draft_first 40 F_h0_draft_first), (aI ca h0_draft_second 40 F_h0_draft_second)] := hD
    try dsimp only at w_130
    rcases w_130 with h_131 | h_132
    · skip
      subst h_131
      refine lv_if_eq (tgt := 87) hx hb dX8_readPlain_58 (by decide) (fun c => absurd c (by decide)) (fun _ => ?_)
      refine lv_aload_n hx hb dX8_readPlain_61 rfl (lv_at hl 2 rfl) ?_
      refine oC_i (Wc := [(h0, .inr (8, [.ref h0_draft, .int h0_ones, .ref h0_reader])), (h0_reader, .inr (6, [.ref h0_reader_bytes, .int h0_reader_length, .int h0_reader_faultKind, .int h0_reader_faultAt, .long h0_reader_letters, .int h0_reader_mostBytes, .int h0_reader_behind, .int h0_reader_at, .int h0_reader_kind, .int h0_reader_number]))]) (Wr := [(aI ca h0_reader_bytes 940 F_h0_reader_bytes), (r1, .inr (5, [.int r1_jurors, .int r1_floors, .int r1_cases, .int r1_one, .int r1_dent, .int r1_seated, .ref r1_jurorName, .ref r1_floorName, .ref r1_caseName, .ref r1_pitch, .ref r1_length, .ref r1_hands, .ref r1_tune, .ref r1_dull, .ref r1_caseFloor, .ref r1_tuned])), (aJ ca r1_floorName 4 F_r1_floorName), (aJ ca r1_jurorName 10 F_r1_jurorName), (h0_draft, .inr (7, [.int h0_draft_present, .int h0_draft_steps, .ref h0_draft_word, .ref h0_draft_first, .ref h0_draft_second, .ref h0_draft_sets])), (aW ca h0_draft_word 40 F_h0_draft_word), (aI ca h0_draft_first 40 F_h0_draft_first), (aI ca h0_draft_second 40 F_h0_draft_second)]) (va_runV (As := []) (rest := []) ⟨hx, hb, hml, hown, hts⟩ (s_X8_seenSign l D ca H.size h0 h0_draft h0_ones h0_reader h0_reader_bytes h0_reader_length h0_reader_faultKind h0_reader_faultAt h0_reader_letters h0_reader_mostBytes h0_reader_behind h0_reader_at h0_reader_kind h0_reader_number i_h0_reader_length i_h0_reader_faultKind i_h0_reader_behind) (cwV 0 hts gX8_readPlain_X8_seenSign rfl rfl rfl (by decide +kernel) ⟨Nat.le_of_ble_eq_true rfl, Nat.le_of_ble_eq_true rfl⟩) (oPV (C := RX8) hK hP hD [0, 1] rfl (by decide) 0 rfl (ci := 8) rfl rfl) rfl rfl hl.1 rfl (lv_room (Nat.le_of_ble_eq_true rfl)) dX8_readPlain_62 ⟨Nat.le_of_ble_eq_true rfl, Nat.le_of_ble_eq_true rfl⟩) hP hD hS hA [0, 1] [2, 3, 4, 5, 6, 7, 8, 9] rfl rfl (by decide) (by decide) (fun r_133 u H locs w_134 hP hD hS => ?_)
      obtain ⟨⟩ := u
      have hP : va_P D vwCl [(aI ca h0_reader_bytes 940 F_h0_reader_bytes), (r1, .inr (5, [.int r1_jurors, .int r1_floors, .int r1_cases, .int r1_one, .int r1_dent, .int r1_seated, .ref r1_jurorName, .ref r1_floorName, .ref r1_caseName, .ref r1_pitch, .ref r1_length, .ref r1_hands, .ref r1_tune, .ref r1_dull, .ref r1_caseFloor, .ref r1_tuned])), (aJ ca r1_floorName 4 F_r1_floorName), (aJ ca r1_jurorName 10 F_r1_jurorName), (h0_draft, .inr (7, [.int h0_draft_present, .int h0_draft_steps, .ref h0_draft_word, .ref h0_draft_first, .ref h0_draft_second, .ref h0_draft_sets])), (aW ca h0_draft_word 40 F_h0_draft_word), (aI ca h0_draft_first 40 F_h0_draft_first), (aI ca h0_draft_second 40 F_h0_draft_second), (h0, .inr (8, [.ref h0_draft, .int h0_ones, .ref h0_reader])), (h0_reader, .inr (6, [.ref h0_reader_bytes, .int h0_reader_length, .int h0_reader_faultKind, .int h0_reader_faultAt, .long h0_reader_letters, .int h0_reader_mostBytes, .int h0_reader_behind, .int h0_reader_at, .int h0_reader_kind, .int h0_reader_number]))] H := hP
      have hD : va_D A [(aI ca h0_reader_bytes 940 F_h0_reader_bytes), (r1, .inr (5, [.int r1_jurors, .int r1_floors, .int r1_cases, .int r1_one, .int r1_dent, .int r1_seated, .ref r1_jurorName, .ref r1_floorName, .ref r1_caseName, .ref r1_pitch, .ref r1_length, .ref r1_hands, .ref r1_tune, .ref r1_dull, .ref r1_caseFloor, .ref r1_tuned])), (aJ ca r1_floorName 4 F_r1_floorName), (aJ ca r1_jurorName 10 F_r1_jurorName), (h0_draft, .inr (7, [.int h0_draft_present, .int h0_draft_steps, .ref h0_draft_word, .ref h0_draft_first, .ref h0_draft_second, .ref h0_draft_sets])), (aW ca h0_draft_word 40 F_h0_draft_word), (aI ca h0_draft_first 40 F_h0_draft_first), (aI ca h0_draft_second 40 F_h0_draft_second), (h0, .inr (8, [.ref h0_draft, .int h0_ones, .ref h0_reader])), (h0_reader, .inr (6, [.ref h0_reader_bytes, .int h0_reader_length, .int h0_reader_faultKind, .int h0_reader_faultAt, .long h0_reader_letters, .int h0_reader_mostBytes, .int h0_reader_behind, .int h0_reader_at, .int h0_reader_kind, .int h0_reader_number]))] := hD
      try dsimp only at w_134
      have h_135 := w_134
      refine lv_istore_n (lv' := [(3, .int r_133), (4, .int 0), (0, .ref h0), (1, .ref r1), (2, .ref (ad kw2))]) hx hb dX8_readPlain_65 rfl hl (by decide) rfl (fun ls hl => ?_)
      refine lv_aload_n hx hb dX8_readPlain_66 rfl (lv_at hl 2 rfl) ?_
      refine va_get (D := D) (ci := 8) (v := .ref h0_reader) (C := RX8) (T := TX8) (N := 3) hx hb hts k2 hown hK.1 hP 8 rfl rfl 2 (by decide) k4 (fun _ h9 => h9) rfl dX8_readPlain_67 ?_
      refine lv_iload_n hx hb dX8_readPlain_70 rfl (lv_at hl 0 rfl) ?_
      refine oC_v (Wc := [(h0_reader, .inr (6, [.ref h0_reader_bytes, .int h0_reader_length, .int h0_reader_faultKind, .int h0_reader_faultAt, .long h0_reader_letters, .int h0_reader_mostBytes, .int h0_reader_behind, .int h0_reader_at, .int h0_reader_kind, .int h0_reader_number])), (aI ca h0_reader_bytes 940 F_h0_reader_bytes)]) (Wr := [(r1, .inr (5, [.int r1_jurors, .int r1_floors, .int r1_cases, .int r1_one, .int r1_dent, .int r1_seated, .ref r1_jurorName, .ref r1_floorName, .ref r1_caseName, .ref r1_pitch, .ref r1_length, .ref r1_hands, .ref r1_tune, .ref r1_dull, .ref r1_caseFloor, .ref r1_tuned])), (aJ ca r1_floorName 4 F_r1_floorName), (aJ ca r1_jurorName 10 F_r1_jurorName), (h0_draft, .inr (7, [.int h0_draft_present, .int h0_draft_steps, .ref h0_draft_word, .ref h0_draft_first, .ref h0_draft_second, .ref h0_draft_sets])), (aW ca h0_draft_word 40 F_h0_draft_word), (aI ca h0_draft_first 40 F_h0_draft_first), (aI ca h0_draft_second 40 F_h0_draft_second), (h0, .inr (8, [.ref h0_draft, .int h0_ones, .ref h0_reader]))]) (va_runV (As := [.int r_133]) (rest := []) ⟨hx, hb, hml, hown, hts⟩ (s_X6_takeSign l D ca H.size h0_reader r_133 h0_reader_bytes h0_reader_length h0_reader_faultKind h0_reader_faultAt h0_reader_letters h0_reader_mostBytes h0_reader_behind h0_reader_at h0_reader_kind h0_reader_number F_h0_reader_bytes i_h0_reader_length i_h0_reader_faultKind i_h0_reader_behind s_h0_reader_bytes_0) (cwV 1 hts gX8_readPlain_X6_takeSign rfl rfl rfl (by decide +kernel) ⟨Nat.le_of_ble_eq_true rfl, Nat.le_of_ble_eq_true rfl⟩) (oPV (C := RX6) hK hP hD [9, 0] rfl (by decide) 0 rfl (ci := 6) rfl rfl) rfl rfl hl.1 rfl (lv_room (Nat.le_of_ble_eq_true rfl)) dX8_readPlain_71 ⟨Nat.le_of_ble_eq_true rfl, Nat.le_of_ble_eq_true rfl⟩) hP hD hS hA [9, 0] [1, 2, 3, 4, 5, 6, 7, 8] rfl rfl (by decide) (by decide) (fun u H locs w_137 hP hD hS => ?_)
      obtain ⟨u_138, u_139, u_140, u_141, u_142, u_143, u_144⟩ := u
      have hP : va_P D vwCl [(r1, .inr (5, [.int r1_jurors, .int r1_floors, .int r1_cases, .int r1_one, .int r1_dent, .int r1_seated, .ref r1_jurorName, .ref r1_floorName, .ref r1_caseName, .ref r1_pitch, .ref r1_length, .ref r1_hands, .ref r1_tune, .ref r1_dull, .ref r1_caseFloor, .ref r1_tuned])), (aJ ca r1_floorName 4 F_r1_floorName), (aJ ca r1_jurorName 10 F_r1_jurorName), (h0_draft, .inr (7, [.int h0_draft_present, .int h0_draft_steps, .ref h0_draft_word, .ref h0_draft_first, .ref h0_draft_second, .ref h0_draft_sets])), (aW ca h0_draft_word 40 F_h0_draft_word), (aI ca h0_draft_first 40 F_h0_draft_first), (aI ca h0_draft_second 40 F_h0_draft_second), (h0, .inr (8, [.ref h0_draft, .int h0_ones, .ref h0_reader])), (h0_reader, .inr (6, [.ref h0_reader_bytes, .int h0_reader_length, .int u_138, .int u_139, .long u_140, .int h0_reader_mostBytes, .int u_141, .int u_142, .int u_143, .int u_144])), (aI ca h0_reader_bytes 940 F_h0_reader_bytes)] H := hP
      have hD : va_D A [(r1, .inr (5, [.int r1_jurors, .int r1_floors, .int r1_cases, .int r1_one, .int r1_dent, .int r1_seated, .ref r1_jurorName, .ref r1_floorName, .ref r1_caseName, .ref r1_pitch, .ref r1_length, .ref r1_hands, .ref r1_tune, .ref r1_dull, .ref r1_caseFloor, .ref r1_tuned])), (aJ ca r1_floorName 4 F_r1_floorName), (aJ ca r1_jurorName 10 F_r1_jurorName), (h0_draft, .inr (7, [.int h0_draft_present, .int h0_draft_steps, .ref h0_draft_word, .ref h0_draft_first, .ref h0_draft_second, .ref h0_draft_sets])), (aW ca h0_draft_word 40 F_h0_draft_word), (aI ca h0_draft_first 40 F_h0_draft_first), (aI ca h0_draft_second 40 F_h0_draft_second), (h0, .inr (8, [.ref h0_draft, .int h0_ones, .ref h0_reader])), (h0_reader, .inr (6, [.ref h0_reader_bytes, .int h0_reader_length, .int u_138, .int u_139, .long u_140, .int h0_reader_mostBytes, .int u_141, .int u_142, .int u_143, .int u_144])), (aI ca h0_reader_bytes 940 F_h0_reader_bytes)] := hD
      try dsimp only at w_137
      obtain ⟨h_145, h_146⟩ := w_137
      refine lv_aload_n hx hb dX8_readPlain_74 rfl (lv_at hl 2 rfl) ?_
      refine va_get (D := D) (ci := 8) (v := .ref h0_reader) (C := RX8) (T := TX8) (N := 3) hx hb hts k2 hown hK.1 hP 7 rfl rfl 2 (by decide) k4 (fun _ h9 => h9) rfl dX8_readPlain_75 ?_
      refine lv_iconst (v := 0) hx hb dX8_readPlain_78 (by decide) ?_
      refine lv_sipush (v := 999) hx hb dX8_readPlain_79 (by decide) ?_
      refine oC_i (Wc := [(h0_reader, .inr (6, [.ref h0_reader_bytes, .int h0_reader_length, .int u_138, .int u_139, .long u_140, .int h0_reader_mostBytes, .int u_141, .int u_142, .int u_143, .int u_144])), (aI ca h0_reader_bytes 940 F_h0_reader_bytes)]) (Wr := [(r1, .inr (5, [.int r1_jurors, .int r1_floors, .int r1_cases, .int r1_one, .int r1_dent, .int r1_seated, .ref r1_jurorName, .ref r1_floorName, .ref r1_caseName, .ref r1_pitch, .ref r1_length, .ref r1_hands, .ref r1_tune, .ref r1_dull, .ref r1_caseFloor, .ref r1_tuned])), (aJ ca r1_floorName 4 F_r1_floorName), (aJ ca r1_jurorName 10 F_r1_jurorName), (h0_draft, .inr (7, [.int h0_draft_present, .int h0_draft_steps, .ref h0_draft_word, .ref h0_draft_first, .ref h0_draft_second, .ref h0_draft_sets])), (aW ca h0_draft_word 40 F_h0_draft_word), (aI ca h0_draft_first 40 F_h0_draft_first), (aI ca h0_draft_second 40 F_h0_draft_second), (h0, .inr (8, [.ref h0_draft, .int h0_ones, .ref h0_reader]))]) (va_runV (As := [.int 0, .int 999]) (rest := []) ⟨hx, hb, hml, hown, hts⟩ (s_X6_takeNumber l D ca H.size h0_reader 0 999 h0_reader_bytes h0_reader_length u_138 u_139 u_140 h0_reader_mostBytes u_141 u_142 u_143 u_144 F_h0_reader_bytes i_h0_reader_length h_145 h_146 s_h0_reader_bytes_0) (cwV 2 hts gX8_readPlain_X6_takeNumber rfl rfl rfl (by decide +kernel) ⟨Nat.le_of_ble_eq_true rfl, Nat.le_of_ble_eq_true rfl⟩) (oPV (C := RX6) hK hP hD [8, 9] rfl (by decide) 0 rfl (ci := 6) rfl rfl) rfl rfl hl.1 rfl (lv_room (Nat.le_of_ble_eq_true rfl)) dX8_readPlain_82 ⟨Nat.le_of_ble_eq_true rfl, Nat.le_of_ble_eq_true rfl⟩) hP hD hS hA [8, 9] [0, 1, 2, 3, 4, 5, 6, 7] rfl rfl (by decide) (by decide) (fun r_147 u H locs w_148 hP hD hS => ?_)
      obtain ⟨u_149, u_150, u_151, u_152, u_153, u_154, u_155⟩ := u
      have hP : va_P D vwCl [(r1, .inr (5, [.int r1_jurors, .int r1_floors, .int r1_cases, .int r1_one, .int r1_dent, .int r1_seated, .ref r1_jurorName, .ref r1_floorName, .ref r1_caseName, .ref r1_pitch, .ref r1_length, .ref r1_hands, .ref r1_tune, .ref r1_dull, .ref r1_caseFloor, .ref r1_tuned])), (aJ ca r1_floorName 4 F_r1_floorName), (aJ ca r1_jurorName 10 F_r1_jurorName), (h0_draft, .inr (7, [.int h0_draft_present, .int h0_draft_steps, .ref h0_draft_word, .ref h0_draft_first, .ref h0_draft_second, .ref h0_draft_sets])), (aW ca h0_draft_word 40 F_h0_draft_word), (aI ca h0_draft_first 40 F_h0_draft_first), (aI ca h0_draft_second 40 F_h0_draft_second), (h0, .inr (8, [.ref h0_draft, .int h0_ones, .ref h0_reader])), (h0_reader, .inr (6, [.ref h0_reader_bytes, .int h0_reader_length, .int u_149, .int u_150, .long u_151, .int h0_reader_mostBytes, .int u_152, .int u_153, .int u_154, .int u_155])), (aI ca h0_reader_bytes 940 F_h0_reader_bytes)] H := hP
      have hD : va_D A [(r1, .inr (5, [.int r1_jurors, .int r1_floors, .int r1_cases, .int r1_one, .int r1_dent, .int r1_seated, .ref r1_jurorName, .ref r1_floorName, .ref r1_caseName, .ref r1_pitch, .ref r1_length, .ref r1_hands, .ref r1_tune, .ref r1_dull, .ref r1_caseFloor, .ref r1_tuned])), (aJ ca r1_floorName 4 F_r1_floorName), (aJ ca r1_jurorName 10 F_r1_jurorName), (h0_draft, .inr (7, [.int h0_draft_present, .int h0_draft_steps, .ref h0_draft_word, .ref h0_draft_first, .ref h0_draft_second, .ref h0_draft_sets])), (aW ca h0_draft_word 40 F_h0_draft_word), (aI ca h0_draft_first 40 F_h0_draft_first), (aI ca h0_draft_second 40 F_h0_draft_second), (h0, .inr (8, [.ref h0_draft, .int h0_ones, .ref h0_reader])), (h0_reader, .inr (6, [.ref h0_reader_bytes, .int h0_reader_length, .int u_149, .int u_150, .long u_151, .int h0_reader_mostBytes, .int u_152, .int u_153, .int u_154, .int u_155])), (aI ca h0_reader_bytes 940 F_h0_reader_bytes)] := hD
      try dsimp only at w_148
      obtain ⟨h_156, h_157⟩ := w_148
      refine lv_istore (lv' := [(4, .int r_147), (3, .int r_133), (0, .ref h0), (1, .ref r1), (2, .ref (ad kw2))]) hx hb dX8_readPlain_85 hl (by decide) rfl (fun ls hl => ?_)
      exact J87_118 r_133 r_147 u_149 u_150 u_151 u_152 u_153 u_154 u_155 (rgw (lo := (-1)) (hi := 62) h_135 (by decide) (by decide)) h_156 h_157 H locs ls (oPsub hP [7, 8, 9, 0, 1, 2, 3, 4, 5, 6] rfl) (hD.sub [7, 8, 9, 0, 1, 2, 3, 4, 5, 6] (by decide) rfl) hS (lv_sub hl [2, 4, 1, 0] rfl)
    · skip
      subst h_132
      refine lv_if_eq (tgt := 87) hx hb dX8_readPlain_58 (by decide) (fun _ => ?_) (fun c => absurd (by decide) c)
      exact J87_118 0 0 h0_reader_faultKind h0_reader_faultAt h0_reader_letters h0_reader_behind h0_reader_at h0_reader_kind h0_reader_number (⟨by decide, by decide⟩ : rg (-1) 62 (0 : Int32)) i_h0_reader_faultKind i_h0_reader_behind H locs ls (oPsub hP [0, 1, 2, 3, 4, 5, 6, 7, 8, 9] rfl) (hD.sub [0, 1, 2, 3, 4, 5, 6, 7, 8, 9] (by decide) rfl) hS (lv_sub hl [2, 4, 1, 0] rfl)
  · skip
    refine lv_aload_n hx hb dX8_readPlain_12 rfl (lv_at hl 2 rfl) ?_
    refine va_get (D := D) (ci := 8) (v := .ref h0_reader) (C := RX8) (T := TX8) (N := 3) hx hb hts k2 hown hK.1 hP 0 rfl rfl 2 (by decide) k4 (fun _ h9 => h9) rfl dX8_readPlain_13 ?_
    refine lv_aload_n hx hb dX8_readPlain_16 rfl (lv_at hl 3 rfl) ?_
    refine lv_aload_n hx hb dX8_readPlain_17 rfl (lv_at hl 2 rfl) ?_
    refine va_get (D := D) (ci := 8) (v := .ref h0_reader) (C := RX8) (T := TX8) (N := 3) hx hb hts k2 hown hK.1 hP 0 rfl rfl 2 (by decide) k4 (fun _ h9 => h9) rfl dX8_readPlain_18 ?_
    refine va_get (D := D) (ci := 6) (v := .long h0_reader_letters) (C := RX6) (T := TX6) (N := 10) hx hb hts k6 hown hK.1 hP 1 rfl rfl 4 (by decide) k5 (fun _ h9 => h9) rfl dX8_readPlain_21 ?_
    refine oC_i (Wc := [(r1, .inr (5, [.int r1_jurors, .int r1_floors, .int r1_cases, .int r1_one, .int r1_dent, .int r1_seated, .ref r1_jurorName, .ref r1_floorName, .ref r1_caseName, .ref r1_pitch, .ref r1_length, .ref r1_hands, .ref r1_tune, .ref r1_dull, .ref r1_caseFloor, .ref r1_tuned])), (aJ ca r1_floorName 4 F_r1_floorName)]) (Wr := [(h0, .inr (8, [.ref h0_draft, .int h0_ones, .ref h0_reader])), (h0_reader, .inr (6, [.ref h0_reader_bytes, .int h0_reader_length, .int h0_reader_faultKind, .int h0_reader_faultAt, .long h0_reader_letters, .int h0_reader_mostBytes, .int h0_reader_behind, .int h0_reader_at, .int h0_reader_kind, .int h0_reader_number])), (aI ca h0_reader_bytes 940 F_h0_reader_bytes), (aJ ca r1_jurorName 10 F_r1_jurorName), (h0_draft, .inr (7, [.int h0_draft_present, .int h0_draft_steps, .ref h0_draft_word, .ref h0_draft_first, .ref h0_draft_second, .ref h0_draft_sets])), (aW ca h0_draft_word 40 F_h0_draft_word), (aI ca h0_draft_first 40 F_h0_draft_first), (aI ca h0_draft_second 40 F_h0_draft_second)]) (va_runV (As := [.long h0_reader_letters]) (rest := [.ref h0_reader]) ⟨hx, hb, hml, hown, hts⟩ (s_X5_floorNamed l D ca H.size r1 h0_reader_letters r1_jurors r1_floors r1_cases r1_one r1_dent r1_seated r1_jurorName r1_floorName r1_caseName r1_pitch r1_length r1_hands r1_tune r1_dull r1_caseFloor r1_tuned F_r1_floorName i_r1_jurors i_r1_floors i_r1_cases i_r1_seated) (cwV 1 hts gX8_readPlain_X5_floorNamed rfl rfl rfl (by decide +kernel) ⟨Nat.le_of_ble_eq_true rfl, Nat.le_of_ble_eq_true rfl⟩) (oPV (C := RX5) hK hP hD [3, 4] rfl (by decide) 0 rfl (ci := 5) rfl rfl) rfl rfl hl.1 rfl (lv_room (Nat.le_of_ble_eq_true rfl)) dX8_readPlain_24 ⟨Nat.le_of_ble_eq_true rfl, Nat.le_of_ble_eq_true rfl⟩) hP hD hS hA [3, 4] [0, 1, 2, 5, 6, 7, 8, 9] rfl rfl (by decide) (by decide) (fun r_158 u H locs w_159 hP hD hS => ?_)
    obtain ⟨⟩ := u
    have hP : va_P D vwCl [(h0, .inr (8, [.ref h0_draft, .int h0_ones, .ref h0_reader])), (h0_reader, .inr (6, [.ref h0_reader_bytes, .int h0_reader_length, .int h0_reader_faultKind, .int h0_reader_faultAt, .long h0_reader_letters, .int h0_reader_mostBytes, .int h0_reader_behind, .int h0_reader_at, .int h0_reader_kind, .int h0_reader_number])), (aI ca h0_reader_bytes 940 F_h0_reader_bytes), (aJ ca r1_jurorName 10 F_r1_jurorName), (h0_draft, .inr (7, [.int h0_draft_present, .int h0_draft_steps, .ref h0_draft_word, .ref h0_draft_first, .ref h0_draft_second, .ref h0_draft_sets])), (aW ca h0_draft_word 40 F_h0_draft_word), (aI ca h0_draft_first 40 F_h0_draft_first), (aI ca h0_draft_second 40 F_h0_draft_second), (r1, .inr (5, [.int r1_jurors, .int r1_floors, .int r1_cases, .int r1_one, .int r1_dent, .int r1_seated, .ref r1_jurorName, .ref r1_floorName, .ref r1_caseName, .ref r1_pitch, .ref r1_length, .ref r1_hands, .ref r1_tune, .ref r1_dull, .ref r1_caseFloor, .ref r1_tuned])), (aJ ca r1_floorName 4 F_r1_floorName)] H := hP
    have hD : va_D A [(h0, .inr (8, [.ref h0_draft, .int h0_ones, .ref h0_reader])), (h0_reader, .inr (6, [.ref h0_reader_bytes, .int h0_reader_length, .int h0_reader_faultKind, .int h0_reader_faultAt, .long h0_reader_letters, .int h0_reader_mostBytes, .int h0_reader_behind, .int h0_reader_at, .int h0_reader_kind, .int h0_reader_number])), (aI ca h0_reader_bytes 940 F_h0_reader_bytes), (aJ ca r1_jurorName 10 F_r1_jurorName), (h0_draft, .inr (7, [.int h0_draft_present, .int h0_draft_steps, .ref h0_draft_word, .ref h0_draft_first, .ref h0_draft_second, .ref h0_draft_sets])), (aW ca h0_draft_word 40 F_h0_draft_word), (aI ca h0_draft_first 40 F_h0_draft_first), (aI ca h0_draft_second 40 F_h0_draft_second), (r1, .inr (5, [.int r1_jurors, .int r1_floors, .int r1_cases, .int r1_one, .int r1_dent, .int r1_seated, .ref r1_jurorName, .ref r1_floorName, .ref r1_caseName, .ref r1_pitch, .ref r1_length, .ref r1_hands, .ref r1_tune, .ref r1_dull, .ref r1_caseFloor, .ref r1_tuned])), (aJ ca r1_floorName 4 F_r1_floorName)] := hD
    try dsimp only at w_159
    have h_160 := w_159
    refine oC_i (Wc := [(h0_reader, .inr (6, [.ref h0_reader_bytes, .int h0_reader_length, .int h0_reader_faultKind, .int h0_reader_faultAt, .long h0_reader_letters, .int h0_reader_mostBytes, .int h0_reader_behind, .int h0_reader_at, .int h0_reader_kind, .int h0_reader_number])), (aI ca h0_reader_bytes 940 F_h0_reader_bytes)]) (Wr := [(h0, .inr (8, [.ref h0_draft, .int h0_ones, .ref h0_reader])), (aJ ca r1_jurorName 10 F_r1_jurorName), (h0_draft, .inr (7, [.int h0_draft_present, .int h0_draft_steps, .ref h0_draft_word, .ref h0_draft_first, .ref h0_draft_second, .ref h0_draft_sets])), (aW ca h0_draft_word 40 F_h0_draft_word), (aI ca h0_draft_first 40 F_h0_draft_first), (aI ca h0_draft_second 40 F_h0_draft_second), (r1, .inr (5, [.int r1_jurors, .int r1_floors, .int r1_cases, .int r1_one, .int r1_dent, .int r1_seated, .ref r1_jurorName, .ref r1_floorName, .ref r1_caseName, .ref r1_pitch, .ref r1_length, .ref r1_hands, .ref r1_tune, .ref r1_dull, .ref r1_caseFloor, .ref r1_tuned])), (aJ ca r1_floorName 4 F_r1_floorName)]) (va_runV (As := [.int r_158]) (rest := []) ⟨hx, hb, hml, hown, hts⟩ (s_X6_takeFound l D ca ad wt H.size h0_reader r_158 h0_reader_bytes h0_reader_length h0_reader_faultKind h0_reader_faultAt h0_reader_letters h0_reader_mostBytes h0_reader_behind h0_reader_at h0_reader_kind h0_reader_number F_h0_reader_bytes (rgw (lo := (-1)) (hi := 39) h_160 (by decide) (by decide)) i_h0_reader_length i_h0_reader_faultKind i_h0_reader_behind s_h0_reader_bytes_0) (cwV 1 hts gX8_readPlain_X6_takeFound rfl rfl rfl (by decide +kernel) ⟨Nat.le_of_ble_eq_true rfl, Nat.le_of_ble_eq_true rfl⟩) (sPV (C := RX6) hZ hS hA hK hP hD [1, 2] rfl (by decide) 0 rfl (ci := 6) rfl rfl) rfl rfl hl.1 rfl (lv_room (Nat.le_of_ble_eq_true rfl)) dX8_readPlain_27 ⟨Nat.le_of_ble_eq_true rfl, Nat.le_of_ble_eq_true rfl⟩) hP hD hS hA [1, 2] [0, 3, 4, 5, 6, 7, 8, 9] rfl rfl (by decide) (by decide) (fun r_161 u H locs w_162 hP hD hS => ?_)
    obtain ⟨u_163, u_164, u_165, u_166, u_167, u_168, u_169⟩ := u
    have hP : va_P D vwCl [(h0, .inr (8, [.ref h0_draft, .int h0_ones, .ref h0_reader])), (aJ ca r1_jurorName 10 F_r1_jurorName), (h0_draft, .inr (7, [.int h0_draft_present, .int h0_draft_steps, .ref h0_draft_word, .ref h0_draft_first, .ref h0_draft_second, .ref h0_draft_sets])), (aW ca h0_draft_word 40 F_h0_draft_word), (aI ca h0_draft_first 40 F_h0_draft_first), (aI ca h0_draft_second 40 F_h0_draft_second), (r1, .inr (5, [.int r1_jurors, .int r1_floors, .int r1_cases, .int r1_one, .int r1_dent, .int r1_seated, .ref r1_jurorName, .ref r1_floorName, .ref r1_caseName, .ref r1_pitch, .ref r1_length, .ref r1_hands, .ref r1_tune, .ref r1_dull, .ref r1_caseFloor, .ref r1_tuned])), (aJ ca r1_floorName 4 F_r1_floorName), (h0_reader, .inr (6, [.ref h0_reader_bytes, .int h0_reader_length, .int u_163, .int u_164, .long u_165, .int h0_reader_mostBytes, .int u_166, .int u_167, .int u_168, .int u_169])), (aI ca h0_reader_bytes 940 F_h0_reader_bytes)] H := hP
    have hD : va_D A [(h0, .inr (8, [.ref h0_draft, .int h0_ones, .ref h0_reader])), (aJ ca r1_jurorName 10 F_r1_jurorName), (h0_draft, .inr (7, [.int h0_draft_present, .int h0_draft_steps, .ref h0_draft_word, .ref h0_draft_first, .ref h0_draft_second, .ref h0_draft_sets])), (aW ca h0_draft_word 40 F_h0_draft_word), (aI ca h0_draft_first 40 F_h0_draft_first), (aI ca h0_draft_second 40 F_h0_draft_second), (r1, .inr (5, [.int r1_jurors, .int r1_floors, .int r1_cases, .int r1_one, .int r1_dent, .int r1_seated, .ref r1_jurorName, .ref r1_floorName, .ref r1_caseName, .ref r1_pitch, .ref r1_length, .ref r1_hands, .ref r1_tune, .ref r1_dull, .ref r1_caseFloor, .ref r1_tuned])), (aJ ca r1_floorName 4 F_r1_floorName), (h0_reader, .inr (6, [.ref h0_reader_bytes, .int h0_reader_length, .int u_163, .int u_164, .long u_165, .int h0_reader_mostBytes, .int u_166, .int u_167, .int u_168, .int u_169])), (aI ca h0_reader_bytes 940 F_h0_reader_bytes)] := hD
    try dsimp only at w_162
    rcases w_162 with ⟨h_170, h_171, h_172, h_173, h_174, h_175, h_176, h_177, h_178⟩ | ⟨h_179, h_180, h_181, h_182, h_183, h_184, h_185, h_186, h_187, h_188, h_189⟩
    · skip
      subst h_170
      refine lv_istore_n (lv' := [(3, .int (-1)), (4, .int 0), (0, .ref h0), (1, .ref r1), (2, .ref (ad kw2))]) hx hb dX8_readPlain_30 rfl hl (by decide) rfl (fun ls hl => ?_)
      refine lv_aload_n hx hb dX8_readPlain_31 rfl (lv_at hl 2 rfl) ?_
      refine va_get (D := D) (ci := 8) (v := .ref h0_reader) (C := RX8) (T := TX8) (N := 3) hx hb hts k2 hown hK.1 hP 0 rfl rfl 2 (by decide) k4 (fun _ h9 => h9) rfl dX8_readPlain_32 ?_
      refine lv_aload_n hx hb dX8_readPlain_35 rfl (lv_at hl 3 rfl) ?_
      refine lv_aload_n hx hb dX8_readPlain_36 rfl (lv_at hl 2 rfl) ?_
      refine va_get (D := D) (ci := 8) (v := .ref h0_reader) (C := RX8) (T := TX8) (N := 3) hx hb hts k2 hown hK.1 hP 0 rfl rfl 2 (by decide) k4 (fun _ h9 => h9) rfl dX8_readPlain_37 ?_
      refine va_get (D := D) (ci := 6) (v := .long u_165) (C := RX6) (T := TX6) (N := 10) hx hb hts k6 hown hK.1 hP 8 rfl rfl 4 (by decide) k5 (fun _ h9 => h9) rfl dX8_readPlain_40 ?_
      refine oC_i (Wc := [(r1, .inr (5, [.int r1_jurors, .int r1_floors, .int r1_cases, .int r1_one, .int r1_dent, .int r1_seated, .ref r1_jurorName, .ref r1_floorName, .ref r1_caseName, .ref r1_pitch, .ref r1_length, .ref r1_hands, .ref r1_tune, .ref r1_dull, .ref r1_caseFloor, .ref r1_tuned])), (aJ ca r1_jurorName 10 F_r1_jurorName)]) (Wr := [(h0, .inr (8, [.ref h0_draft, .int h0_ones, .ref h0_reader])), (h0_draft, .inr (7, [.int h0_draft_present, .int h0_draft_steps, .ref h0_draft_word, .ref h0_draft_first, .ref h0_draft_second, .ref h0_draft_sets])), (aW ca h0_draft_word 40 F_h0_draft_word), (aI ca h0_draft_first 40 F_h0_draft_first), (aI ca h0_draft_second 40 F_h0_draft_second), (aJ ca r1_floorName 4 F_r1_floorName), (h0_reader, .inr (6, [.ref h0_reader_bytes, .int h0_reader_length, .int u_163, .int u_164, .long u_165, .int h0_reader_mostBytes, .int u_166, .int u_167, .int u_168, .int u_169])), (aI ca h0_reader_bytes 940 F_h0_reader_bytes)]) (va_runV (As := [.long u_165]) (rest := [.ref h0_reader]) ⟨hx, hb, hml, hown, hts⟩ (s_X5_jurorNamed l D ca H.size r1 u_165 r1_jurors r1_floors r1_cases r1_one r1_dent r1_seated r1_jurorName r1_floorName r1_caseName r1_pitch r1_length r1_hands r1_tune r1_dull r1_caseFloor r1_tuned F_r1_jurorName i_r1_jurors i_r1_floors i_r1_cases i_r1_seated) (cwV 1 hts gX8_readPlain_X5_jurorNamed rfl rfl rfl (by decide +kernel) ⟨Nat.le_of_ble_eq_true rfl, Nat.le_of_ble_eq_true rfl⟩) (oPV (C := RX5) hK hP hD [6, 1] rfl (by decide) 0 rfl (ci := 5) rfl rfl) rfl rfl hl.1 rfl (lv_room (Nat.le_of_ble_eq_true rfl)) dX8_readPlain_43 ⟨Nat.le_of_ble_eq_true rfl, Nat.le_of_ble_eq_true rfl⟩) hP hD hS hA [6, 1] [0, 2, 3, 4, 5, 7, 8, 9] rfl rfl (by decide) (by decide) (fun r_190 u H locs w_191 hP hD hS => ?_)
      obtain ⟨⟩ := u
      have hP : va_P D vwCl [(h0, .inr (8, [.ref h0_draft, .int h0_ones, .ref h0_reader])), (h0_draft, .inr (7, [.int h0_draft_present, .int h0_draft_steps, .ref h0_draft_word, .ref h0_draft_first, .ref h0_draft_second, .ref h0_draft_sets])), (aW ca h0_draft_word 40 F_h0_draft_word), (aI ca h0_draft_first 40 F_h0_draft_first), (aI ca h0_draft_second 40 F_h0_draft_second), (aJ ca r1_floorName 4 F_r1_floorName), (h0_reader, .inr (6, [.ref h0_reader_bytes, .int h0_reader_length, .int u_163, .int u_164, .long u_165, .int h0_reader_mostBytes, .int u_166, .int u_167, .int u_168, .int u_169])), (aI ca h0_reader_bytes 940 F_h0_reader_bytes), (r1, .inr (5, [.int r1_jurors, .int r1_floors, .int r1_cases, .int r1_one, .int r1_dent, .int r1_seated, .ref r1_jurorName, .ref r1_floorName, .ref r1_caseName, .ref r1_pitch, .ref r1_length, .ref r1_hands, .ref r1_tune, .ref r1_dull, .ref r1_caseFloor, .ref r1_tuned])), (aJ ca r1_jurorName 10 F_r1_jurorName)] H := hP
      have hD : va_D A [(h0, .inr (8, [.ref h0_draft, .int h0_ones, .ref h0_reader])), (h0_draft, .inr (7, [.int h0_draft_present, .int h0_draft_steps, .ref h0_draft_word, .ref h0_draft_first, .ref h0_draft_second, .ref h0_draft_sets])), (aW ca h0_draft_word 40 F_h0_draft_word), (aI ca h0_draft_first 40 F_h0_draft_first), (aI ca h0_draft_second 40 F_h0_draft_second), (aJ ca r1_floorName 4 F_r1_floorName), (h0_reader, .inr (6, [.ref h0_reader_bytes, .int h0_reader_length, .int u_163, .int u_164, .long u_165, .int h0_reader_mostBytes, .int u_166, .int u_167, .int u_168, .int u_169])), (aI ca h0_reader_bytes 940 F_h0_reader_bytes), (r1, .inr (5, [.int r1_jurors, .int r1_floors, .int r1_cases, .int r1_one, .int r1_dent, .int r1_seated, .ref r1_jurorName, .ref r1_floorName, .ref r1_caseName, .ref r1_pitch, .ref r1_length, .ref r1_hands, .ref r1_tune, .ref r1_dull, .ref r1_caseFloor, .ref r1_tuned])), (aJ ca r1_jurorName 10 F_r1_jurorName)] := hD
      try dsimp only at w_191
      have h_192 := w_191
      refine oC_i (Wc := [(h0_reader, .inr (6, [.ref h0_reader_bytes, .int h0_reader_length, .int u_163, .int u_164, .long u_165, .int h0_reader_mostBytes, .int u_166, .int u_167, .int u_168, .int u_169]))]) (Wr := [(h0, .inr (8, [.ref h0_draft, .int h0_ones, .ref h0_reader])), (h0_draft, .inr (7, [.int h0_draft_present, .int h0_draft_steps, .ref h0_draft_word, .ref h0_draft_first, .ref h0_draft_second, .ref h0_draft_sets])), (aW ca h0_draft_word 40 F_h0_draft_word), (aI ca h0_draft_first 40 F_h0_draft_first), (aI ca h0_draft_second 40 F_h0_draft_second), (aJ ca r1_floorName 4 F_r1_floorName), (aI ca h0_reader_bytes 940 F_h0_reader_bytes), (r1, .inr (5, [.int r1_jurors, .int r1_floors, .int r1_cases, .int r1_one, .int r1_dent, .int r1_seated, .ref r1_jurorName, .ref r1_floorName, .ref r1_caseName, .ref r1_pitch, .ref r1_length, .ref r1_hands, .ref r1_tune, .ref r1_dull, .ref r1_caseFloor, .ref r1_tuned])), (aJ ca r1_jurorName 10 F_r1_jurorName)]) (va_runV (As := [.int r_190]) (rest := []) ⟨hx, hb, hml, hown, hts⟩ (s_X6_takeFound_br l D ca ad wt H.size h0_reader r_190 h0_reader_bytes h0_reader_length u_163 u_164 u_165 h0_reader_mostBytes u_166 u_167 u_168 u_169 (rgw (lo := (-1)) (hi := 39) h_192 (by decide) (by decide)) i_h0_reader_length h_171 h_172) (cwV 1 hts gX8_readPlain_X6_takeFound rfl rfl rfl (by decide +kernel) ⟨Nat.le_of_ble_eq_true rfl, Nat.le_of_ble_eq_true rfl⟩) (sPV (C := RX6) hZ hS hA hK hP hD [6] rfl (by decide) 0 rfl (ci := 6) rfl rfl) rfl rfl hl.1 rfl (lv_room (Nat.le_of_ble_eq_true rfl)) dX8_readPlain_46 ⟨Nat.le_of_ble_eq_true rfl, Nat.le_of_ble_eq_true rfl⟩) hP hD hS hA [6] [0, 1, 2, 3, 4, 5, 7, 8, 9] rfl rfl (by decide) (by decide) (fun r_193 u H locs w_194 hP hD hS => ?_)
      obtain ⟨⟩ := u
      have hP : va_P D vwCl [(h0, .inr (8, [.ref h0_draft, .int h0_ones, .ref h0_reader])), (h0_draft, .inr (7, [.int h0_draft_present, .int h0_draft_steps, .ref h0_draft_word, .ref h0_draft_first, .ref h0_draft_second, .ref h0_draft_sets])), (aW ca h0_draft_word 40 F_h0_draft_word), (aI ca h0_draft_first 40 F_h0_draft_first), (aI ca h0_draft_second 40 F_h0_draft_second), (aJ ca r1_floorName 4 F_r1_floorName), (aI ca h0_reader_bytes 940 F_h0_reader_bytes), (r1, .inr (5, [.int r1_jurors, .int r1_floors, .int r1_cases, .int r1_one, .int r1_dent, .int r1_seated, .ref r1_jurorName, .ref r1_floorName, .ref r1_caseName, .ref r1_pitch, .ref r1_length, .ref r1_hands, .ref r1_tune, .ref r1_dull, .ref r1_caseFloor, .ref r1_tuned])), (aJ ca r1_jurorName 10 F_r1_jurorName), (h0_reader, .inr (6, [.ref h0_reader_bytes, .int h0_reader_length, .int u_163, .int u_164, .long u_165, .int h0_reader_mostBytes, .int u_166, .int u_167, .int u_168, .int u_169]))] H := hP
      have hD : va_D A [(h0, .inr (8, [.ref h0_draft, .int h0_ones, .ref h0_reader])), (h0_draft, .inr (7, [.int h0_draft_present, .int h0_draft_steps, .ref h0_draft_word, .ref h0_draft_first, .ref h0_draft_second, .ref h0_draft_sets])), (aW ca h0_draft_word 40 F_h0_draft_word), (aI ca h0_draft_first 40 F_h0_draft_first), (aI ca h0_draft_second 40 F_h0_draft_second), (aJ ca r1_floorName 4 F_r1_floorName), (aI ca h0_reader_bytes 940 F_h0_reader_bytes), (r1, .inr (5, [.int r1_jurors, .int r1_floors, .int r1_cases, .int r1_one, .int r1_dent, .int r1_seated, .ref r1_jurorName, .ref r1_floorName, .ref r1_caseName, .ref r1_pitch, .ref r1_length, .ref r1_hands, .ref r1_tune, .ref r1_dull, .ref r1_caseFloor, .ref r1_tuned])), (aJ ca r1_jurorName 10 F_r1_jurorName), (h0_reader, .inr (6, [.ref h0_reader_bytes, .int h0_reader_length, .int u_163, .int u_164, .long u_165, .int h0_reader_mostBytes, .int u_166, .int u_167, .int u_168, .int u_169]))] := hD
      try dsimp only at w_194
      rcases w_194 with h_195 | ⟨h_196, h_197, h_198, h_199, h_200⟩
      · skip
        subst h_195
        refine lv_istore (lv' := [(4, .int (-1)), (3, .int (-1)), (0, .ref h0), (1, .ref r1), (2, .ref (ad kw2))]) hx hb dX8_readPlain_49 hl (by decide) rfl (fun ls hl => ?_)
        refine lv_goto (tgt := 87) hx hb dX8_readPlain_51 (by decide) ?_
        exact J87_118 (-1) (-1) u_163 u_164 u_165 u_166 u_167 u_168 u_169 (⟨by decide, by decide⟩ : rg (-1) 62 ((-1) : Int32)) (rgw (lo := 0) (hi := 4) h_171 (by decide) (by decide)) h_172 H locs ls (oPsub hP [0, 9, 6, 7, 5, 8, 1, 2, 3, 4] rfl) (hD.sub [0, 9, 6, 7, 5, 8, 1, 2, 3, 4] (by decide) rfl) hS (lv_sub hl [2, 4, 1, 0] rfl)
      · skip
        have h_196' := h_196.symm
        subst h_196'
        have h_201 : rg 0 9 r_190 := rg_i h_197 h_192 (by decide) (by decide)
        refine lv_istore (lv' := [(4, .int r_190), (3, .int (-1)), (0, .ref h0), (1, .ref r1), (2, .ref (ad kw2))]) hx hb dX8_readPlain_49 hl (by decide) rfl (fun ls hl => ?_)
        refine lv_goto (tgt := 87) hx hb dX8_readPlain_51 (by decide) ?_
        exact J87_118 (-1) r_190 u_163 u_164 u_165 u_166 u_167 u_168 u_169 (⟨by decide, by decide⟩ : rg (-1) 62 ((-1) : Int32)) (rgw (lo := 0) (hi := 4) h_171 (by decide) (by decide)) h_172 H locs ls (oPsub hP [0, 9, 6, 7, 5, 8, 1, 2, 3, 4] rfl) (hD.sub [0, 9, 6, 7, 5, 8, 1, 2, 3, 4] (by decide) rfl) hS (lv_sub hl [2, 4, 1, 0] rfl)
    · skip
      have h_179' := h_179.symm
      subst h_179'
      have h_202 : rg 0 3 r_158 := rg_i h_182 h_160 (by decide) (by decide)
      refine lv_istore_n (lv' := [(3, .int r_158), (4, .int 0), (0, .ref h0), (1, .ref r1), (2, .ref (ad kw2))]) hx hb dX8_readPlain_30 rfl hl (by decide) rfl (fun ls hl => ?_)
      refine lv_aload_n hx hb dX8_readPlain_31 rfl (lv_at hl 2 rfl) ?_
      refine va_get (D := D) (ci := 8) (v := .ref h0_reader) (C := RX8) (T := TX8) (N := 3) hx hb hts k2 hown hK.1 hP 0 rfl rfl 2 (by decide) k4 (fun _ h9 => h9) rfl dX8_readPlain_32 ?_
      refine lv_aload_n hx hb dX8_readPlain_35 rfl (lv_at hl 3 rfl) ?_
      refine lv_aload_n hx hb dX8_readPlain_36 rfl (lv_at hl 2 rfl) ?_
      refine va_get (D := D) (ci := 8) (v := .ref h0_reader) (C := RX8) (T := TX8) (N := 3) hx hb hts k2 hown hK.1 hP 0 rfl rfl 2 (by decide) k4 (fun _ h9 => h9) rfl dX8_readPlain_37 ?_
      refine va_get (D := D) (ci := 6) (v := .long u_165) (C := RX6) (T := TX6) (N := 10) hx hb hts k6 hown hK.1 hP 8 rfl rfl 4 (by decide) k5 (fun _ h9 => h9) rfl dX8_readPlain_40 ?_
      refine oC_i (Wc := [(r1, .inr (5, [.int r1_jurors, .int r1_floors, .int r1_cases, .int r1_one, .int r1_dent, .int r1_seated, .ref r1_jurorName, .ref r1_floorName, .ref r1_caseName, .ref r1_pitch, .ref r1_length, .ref r1_hands, .ref r1_tune, .ref r1_dull, .ref r1_caseFloor, .ref r1_tuned])), (aJ ca r1_jurorName 10 F_r1_jurorName)]) (Wr := [(h0, .inr (8, [.ref h0_draft, .int h0_ones, .ref h0_reader])), (h0_draft, .inr (7, [.int h0_draft_present, .int h0_draft_steps, .ref h0_draft_word, .ref h0_draft_first, .ref h0_draft_second, .ref h0_draft_sets])), (aW ca h0_draft_word 40 F_h0_draft_word), (aI ca h0_draft_first 40 F_h0_draft_first), (aI ca h0_draft_second 40 F_h0_draft_second), (aJ ca r1_floorName 4 F_r1_floorName), (h0_reader, .inr (6, [.ref h0_reader_bytes, .int h0_reader_length, .int u_163, .int u_164, .long u_165, .int h0_reader_mostBytes, .int u_166, .int u_167, .int u_168, .int u_169])), (aI ca h0_reader_bytes 940 F_h0_reader_bytes)]) (va_runV (As := [.long u_165]) (rest := [.ref h0_reader]) ⟨hx, hb, hml, hown, hts⟩ (s_X5_jurorNamed l D ca H.size r1 u_165 r1_jurors r1_floors r1_cases r1_one r1_dent r1_seated r1_jurorName r1_floorName r1_caseName r1_pitch r1_length r1_hands r1_tune r1_dull r1_caseFloor r1_tuned F_r1_jurorName i_r1_jurors i_r1_floors i_r1_cases i_r1_seated) (cwV 1 hts gX8_readPlain_X5_jurorNamed rfl rfl rfl (by decide +kernel) ⟨Nat.le_of_ble_eq_true rfl, Nat.le_of_ble_eq_true rfl⟩) (oPV (C := RX5) hK hP hD [6, 1] rfl (by decide) 0 rfl (ci := 5) rfl rfl) rfl rfl hl.1 rfl (lv_room (Nat.le_of_ble_eq_true rfl)) dX8_readPlain_43 ⟨Nat.le_of_ble_eq_true rfl, Nat.le_of_ble_eq_true rfl⟩) hP hD hS hA [6, 1] [0, 2, 3, 4, 5, 7, 8, 9] rfl rfl (by decide) (by decide) (fun r_203 u H locs w_204 hP hD hS => ?_)
      obtain ⟨⟩ := u
      have hP : va_P D vwCl [(h0, .inr (8, [.ref h0_draft, .int h0_ones, .ref h0_reader])), (h0_draft, .inr (7, [.int h0_draft_present, .int h0_draft_steps, .ref h0_draft_word, .ref h0_draft_first, .ref h0_draft_second, .ref h0_draft_sets])), (aW ca h0_draft_word 40 F_h0_draft_word), (aI ca h0_draft_first 40 F_h0_draft_first), (aI ca h0_draft_second 40 F_h0_draft_second), (aJ ca r1_floorName 4 F_r1_floorName), (h0_reader, .inr (6, [.ref h0_reader_bytes, .int h0_reader_length, .int u_163, .int u_164, .long u_165, .int h0_reader_mostBytes, .int u_166, .int u_167, .int u_168, .int u_169])), (aI ca h0_reader_bytes 940 F_h0_reader_bytes), (r1, .inr (5, [.int r1_jurors, .int r1_floors, .int r1_cases, .int r1_one, .int r1_dent, .int r1_seated, .ref r1_jurorName, .ref r1_floorName, .ref r1_caseName, .ref r1_pitch, .ref r1_length, .ref r1_hands, .ref r1_tune, .ref r1_dull, .ref r1_caseFloor, .ref r1_tuned])), (aJ ca r1_jurorName 10 F_r1_jurorName)] H := hP
      have hD : va_D A [(h0, .inr (8, [.ref h0_draft, .int h0_ones, .ref h0_reader])), (h0_draft, .inr (7, [.int h0_draft_present, .int h0_draft_steps, .ref h0_draft_word, .ref h0_draft_first, .ref h0_draft_second, .ref h0_draft_sets])), (aW ca h0_draft_word 40 F_h0_draft_word), (aI ca h0_draft_first 40 F_h0_draft_first), (aI ca h0_draft_second 40 F_h0_draft_second), (aJ ca r1_floorName 4 F_r1_floorName), (h0_reader, .inr (6, [.ref h0_reader_bytes, .int h0_reader_length, .int u_163, .int u_164, .long u_165, .int h0_reader_mostBytes, .int u_166, .int u_167, .int u_168, .int u_169])), (aI ca h0_reader_bytes 940 F_h0_reader_bytes), (r1, .inr (5, [.int r1_jurors, .int r1_floors, .int r1_cases, .int r1_one, .int r1_dent, .int r1_seated, .ref r1_jurorName, .ref r1_floorName, .ref r1_caseName, .ref r1_pitch, .ref r1_length, .ref r1_hands, .ref r1_tune, .ref r1_dull, .ref r1_caseFloor, .ref r1_tuned])), (aJ ca r1_jurorName 10 F_r1_jurorName)] := hD
      try dsimp only at w_204
      have h_205 := w_204
      refine oC_i (Wc := [(h0_reader, .inr (6, [.ref h0_reader_bytes, .int h0_reader_length, .int u_163, .int u_164, .long u_165, .int h0_reader_mostBytes, .int u_166, .int u_167, .int u_168, .int u_169])), (aI ca h0_reader_bytes 940 F_h0_reader_bytes)]) (Wr := [(h0, .inr (8, [.ref h0_draft, .int h0_ones, .ref h0_reader])), (h0_draft, .inr (7, [.int h0_draft_present, .int h0_draft_steps, .ref h0_draft_word, .ref h0_draft_first, .ref h0_draft_second, .ref h0_draft_sets])), (aW ca h0_draft_word 40 F_h0_draft_word), (aI ca h0_draft_first 40 F_h0_draft_first), (aI ca h0_draft_second 40 F_h0_draft_second), (aJ ca r1_floorName 4 F_r1_floorName), (r1, .inr (5, [.int r1_jurors, .int r1_floors, .int r1_cases, .int r1_one, .int r1_dent, .int r1_seated, .ref r1_jurorName, .ref r1_floorName, .ref r1_caseName, .ref r1_pitch, .ref r1_length, .ref r1_hands, .ref r1_tune, .ref r1_dull, .ref r1_caseFloor, .ref r1_tuned])), (aJ ca r1_jurorName 10 F_r1_jurorName)]) (va_runV (As := [.int r_203]) (rest := []) ⟨hx, hb, hml, hown, hts⟩ (s_X6_takeFound l D ca ad wt H.size h0_reader r_203 h0_reader_bytes h0_reader_length u_163 u_164 u_165 h0_reader_mostBytes u_166 u_167 u_168 u_169 F_h0_reader_bytes (rgw (lo := (-1)) (hi := 39) h_205 (by decide) (by decide)) i_h0_reader_length h_180 h_181 s_h0_reader_bytes_0) (cwV 1 hts gX8_readPlain_X6_takeFound rfl rfl rfl (by decide +kernel) ⟨Nat.le_of_ble_eq_true rfl, Nat.le_of_ble_eq_true rfl⟩) (sPV (C := RX6) hZ hS hA hK hP hD [6, 7] rfl (by decide) 0 rfl (ci := 6) rfl rfl) rfl rfl hl.1 rfl (lv_room (Nat.le_of_ble_eq_true rfl)) dX8_readPlain_46 ⟨Nat.le_of_ble_eq_true rfl, Nat.le_of_ble_eq_true rfl⟩) hP hD hS hA [6, 7] [0, 1, 2, 3, 4, 5, 8, 9] rfl rfl (by decide) (by decide) (fun r_206 u H locs w_207 hP hD hS => ?_)
      obtain ⟨u_208, u_209, u_210, u_211, u_212, u_213, u_214⟩ := u
      have hP : va_P D vwCl [(h0, .inr (8, [.ref h0_draft, .int h0_ones, .ref h0_reader])), (h0_draft, .inr (7, [.int h0_draft_present, .int h0_draft_steps, .ref h0_draft_word, .ref h0_draft_first, .ref h0_draft_second, .ref h0_draft_sets])), (aW ca h0_draft_word 40 F_h0_draft_word), (aI ca h0_draft_first 40 F_h0_draft_first), (aI ca h0_draft_second 40 F_h0_draft_second), (aJ ca r1_floorName 4 F_r1_floorName), (r1, .inr (5, [.int r1_jurors, .int r1_floors, .int r1_cases, .int r1_one, .int r1_dent, .int r1_seated, .ref r1_jurorName, .ref r1_floorName, .ref r1_caseName, .ref r1_pitch, .ref r1_length, .ref r1_hands, .ref r1_tune, .ref r1_dull, .ref r1_caseFloor, .ref r1_tuned])), (aJ ca r1_jurorName 10 F_r1_jurorName), (h0_reader, .inr (6, [.ref h0_reader_bytes, .int h0_reader_length, .int u_208, .int u_209, .long u_210, .int h0_reader_mostBytes, .int u_211, .int u_212, .int u_213, .int u_214])), (aI ca h0_reader_bytes 940 F_h0_reader_bytes)] H := hP
      have hD : va_D A [(h0, .inr (8, [.ref h0_draft, .int h0_ones, .ref h0_reader])), (h0_draft, .inr (7, [.int h0_draft_present, .int h0_draft_steps, .ref h0_draft_word, .ref h0_draft_first, .ref h0_draft_second, .ref h0_draft_sets])), (aW ca h0_draft_word 40 F_h0_draft_word), (aI ca h0_draft_first 40 F_h0_draft_first), (aI ca h0_draft_second 40 F_h0_draft_second), (aJ ca r1_floorName 4 F_r1_floorName), (r1, .inr (5, [.int r1_jurors, .int r1_floors, .int r1_cases, .int r1_one, .int r1_dent, .int r1_seated, .ref r1_jurorName, .ref r1_floorName, .ref r1_caseName, .ref r1_pitch, .ref r1_length, .ref r1_hands, .ref r1_tune, .ref r1_dull, .ref r1_caseFloor, .ref r1_tuned])), (aJ ca r1_jurorName 10 F_r1_jurorName), (h0_reader, .inr (6, [.ref h0_reader_bytes, .int h0_reader_length, .int u_208, .int u_209, .long u_210, .int h0_reader_mostBytes, .int u_211, .int u_212, .int u_213, .int u_214])), (aI ca h0_reader_bytes 940 F_h0_reader_bytes)] := hD
      try dsimp only at w_207
      rcases w_207 with ⟨h_215, h_216, h_217, h_218, h_219, h_220, h_221, h_222, h_223⟩ | ⟨h_224, h_225, h_226, h_227, h_228, h_229, h_230, h_231, h_232, h_233, h_234⟩
      · skip
        subst h_215
        refine lv_istore (lv' := [(4, .int (-1)), (3, .int r_158), (0, .ref h0), (1, .ref r1), (2, .ref (ad kw2))]) hx hb dX8_readPlain_49 hl (by decide) rfl (fun ls hl => ?_)
        refine lv_goto (tgt := 87) hx hb dX8_readPlain_51 (by decide) ?_
        exact J87_118 r_158 (-1) u_208 u_209 u_210 u_211 u_212 u_213 u_214 (rgw (lo := (-1)) (hi := 62) h_202 (by decide) (by decide)) (rgw (lo := 0) (hi := 4) h_216 (by decide) (by decide)) h_217 H locs ls (oPsub hP [0, 8, 9, 6, 5, 7, 1, 2, 3, 4] rfl) (hD.sub [0, 8, 9, 6, 5, 7, 1, 2, 3, 4] (by decide) rfl) hS (lv_sub hl [2, 4, 1, 0] rfl)
      · skip
        have h_224' := h_224.symm
        subst h_224'
        have h_235 : rg 0 9 r_203 := rg_i h_227 h_205 (by decide) (by decide)
        refine lv_istore (lv' := [(4, .int r_203), (3, .int r_158), (0, .ref h0), (1, .ref r1), (2, .ref (ad kw2))]) hx hb dX8_readPlain_49 hl (by decide) rfl (fun ls hl => ?_)
        refine lv_goto (tgt := 87) hx hb dX8_readPlain_51 (by decide) ?_
        exact J87_118 r_158 r_203 u_208 u_209 u_210 u_211 u_212 u_213 u_214 (rgw (lo := (-1)) (hi := 62) h_202 (by decide) (by decide)) h_225 h_226 H locs ls (oPsub hP [0, 8, 9, 6, 5, 7, 1, 2, 3, 4] rfl) (hD.sub [0, 8, 9, 6, 5, 7, 1, 2, 3, 4] (by decide) rfl) hS (lv_sub hl [2, 4, 1, 0] rfl)
theorem dX8_finish_0 : decode cX8_finish 0 = .ok (.aload_n 0, 1) := by decide +kernel
theorem dX8_finish_1 : decode cX8_finish 1 = .ok (.getfield 18, 3) := by decide +kernel
theorem dX8_finish_4 : decode cX8_finish 4 = .ok (.invokevirtual 35, 3) := by decide +kernel
theorem dX8_finish_7 : decode cX8_finish 7 = .ok (.ifCond .eq 11, 3) := by decide +kernel
theorem dX8_finish_10 : decode cX8_finish 10 = .ok (.aload_n 0, 1) := by decide +kernel
theorem dX8_finish_11 : decode cX8_finish 11 = .ok (.getfield 18, 3) := by decide +kernel
theorem dX8_finish_14 : decode cX8_finish 14 = .ok (.iconst 1, 1) := by decide +kernel
theorem dX8_finish_15 : decode cX8_finish 15 = .ok (.invokevirtual 39, 3) := by decide +kernel
theorem dX8_finish_18 : decode cX8_finish 18 = .ok (.aload_n 0, 1) := by decide +kernel
theorem dX8_finish_19 : decode cX8_finish 19 = .ok (.getfield 12, 3) := by decide +kernel
theorem dX8_finish_22 : decode cX8_finish 22 = .ok (.iconst 1, 1) := by decide +kernel
theorem dX8_finish_23 : decode cX8_finish 23 = .ok (.putfield 42, 3) := by decide +kernel
theorem dX8_finish_26 : decode cX8_finish 26 = .ok (.return_, 1) := by decide +kernel
theorem dX8_readAll_0 : decode cX8_readAll 0 = .ok (.aload_n 0, 1) := by decide +kernel
theorem dX8_readAll_1 : decode cX8_readAll 1 = .ok (.aload_n 1, 1) := by decide +kernel
theorem dX8_readAll_2 : decode cX8_readAll 2 = .ok (.iload_n 2, 1) := by decide +kernel
theorem dX8_readAll_3 : decode cX8_readAll 3 = .ok (.invokevirtual 64, 3) := by decide +kernel
theorem dX8_readCond_0 : decode cX8_readCond 0 = .ok (.aload_n 0, 1) := by decide +kernel
theorem dX8_readCond_1 : decode cX8_readCond 1 = .ok (.aload_n 1, 1) := by decide +kernel
theorem dX8_readCond_2 : decode cX8_readCond 2 = .ok (.iload_n 2, 1) := by decide +kernel
theorem dX8_readCond_3 : decode cX8_readCond 3 = .ok (.invokevirtual 46, 3) := by decide +kernel
theorem dX8_readOne_0 : decode cX8_readOne 0 = .ok (.aload_n 0, 1) := by decide +kernel
theorem dX8_readOne_1 : decode cX8_readOne 1 = .ok (.invokevirtual 70, 3) := by decide +kernel
theorem dX8_readOne_4 : decode cX8_readOne 4 = .ok (.astore_n 3, 1) := by decide +kernel
theorem dX8_readOne_5 : decode cX8_readOne 5 = .ok (.aload_n 3, 1) := by decide +kernel
theorem dX8_readOne_6 : decode cX8_readOne 6 = .ok (.ifnonnull 37, 3) := by decide +kernel
set_option maxRecDepth 20000 in
theorem ggX8_readOne_X8_plainWord : GoodIn wsX8_readOne wsX8_plainWord := goodIn_r _ [9, 1, 10, 11, 12, 13, 14, 15, 16, 17, 18, 19, 8, 20, 21, 22, 23, 24, 25, 26, 27, 28, 29, 30, 31, 139, 140, 141, 142, 143, 144, 145, 146, 147, 148, 149, 150, 151] rfl (by decide +kernel)
set_option maxRecDepth 20000 in
theorem gX8_readOne_X8_plainWord : GoodIn wsX8_readOne (wsV RX8 70 RX8 yX8_plainWord wsX8_plainWord) := goodIn_app (goodIn_of _ (by decide +kernel)) ggX8_readOne_X8_plainWord
set_option maxRecDepth 20000 in
theorem ggX8_finish_X6_goesOn : GoodIn wsX8_finish wsX6_goesOn := goodIn_r _ [8, 9, 10, 11, 12, 7, 13, 14, 31, 32, 33, 34, 35, 36, 37, 38, 39, 40] rfl (by decide +kernel)
set_option maxRecDepth 20000 in
theorem gX8_finish_X6_goesOn : GoodIn wsX8_finish (wsV RX8 35 RX6 yX6_goesOn wsX6_goesOn) := goodIn_app (goodIn_of _ (by decide +kernel)) ggX8_finish_X6_goesOn
set_option maxRecDepth 20000 in
theorem ggX8_finish_X6_fail : GoodIn wsX8_finish wsX6_fail := goodIn_r _ [18, 14, 19, 20, 9, 21, 10, 11, 12, 7, 13, 31, 32, 33, 34, 35, 36, 37, 38, 39, 40] rfl (by decide +kernel)
set_option maxRecDepth 20000 in
theorem gX8_finish_X6_fail : GoodIn wsX8_finish (wsV RX8 39 RX6 yX6_fail wsX6_fail) := goodIn_app (goodIn_of _ (by decide +kernel)) ggX8_finish_X6_fail
set_option maxHeartbeats 4000000 in
set_option maxRecDepth 100000 in
theorem s_X8_finish (l : Launch) (D : va_G) (ca : Nat → ClassId) (sz : Nat) (h0 : Nat) (h0_draft : Nat) (h0_ones : Int32) (h0_reader : Nat) (h0_reader_bytes : Nat) (h0_reader_length : Int32) (h0_reader_faultKind : Int32) (h0_reader_faultAt : Int32) (h0_reader_letters : Int64) (h0_reader_mostBytes : Int32) (h0_reader_behind : Int32) (h0_reader_at : Int32) (h0_reader_kind : Int32) (h0_reader_number : Int32) (h0_draft_present : Int32) (h0_draft_steps : Int32) (h0_draft_word : Nat) (h0_draft_first : Nat) (h0_draft_second : Nat) (h0_draft_sets : Nat) (i_h0_reader_length : rg 0 940 h0_reader_length) (i_h0_reader_faultKind : rg 0 4 h0_reader_faultKind) (i_h0_reader_behind : rg 0 940 h0_reader_behind) (i_h0_draft_present : rg 0 1 h0_draft_present) (i_h0_draft_steps : rg 0 40 h0_draft_steps) : oMet l yX8_finish wsX8_finish ({ frames := 2, cells := 0, slots := 0, locals := 41 } : Room) [.ref h0] D ca sz [(h0, .inr (8, [.ref h0_draft, .int h0_ones, .ref h0_reader])), (h0_reader, .inr (6, [.ref h0_reader_bytes, .int h0_reader_length, .int h0_reader_faultKind, .int h0_reader_faultAt, .long h0_reader_letters, .int h0_reader_mostBytes, .int h0_reader_behind, .int h0_reader_at, .int h0_reader_kind, .int h0_reader_number])), (h0_draft, .inr (7, [.int h0_draft_present, .int h0_draft_steps, .ref h0_draft_word, .ref h0_draft_first, .ref h0_draft_second, .ref h0_draft_sets]))] (oQv D (fun (u : Int32 × Int32 × Int64 × Int32) => (rg 0 4 u.1)) (fun (u : Int32 × Int32 × Int64 × Int32) => [(h0, .inr (8, [.ref h0_draft, .int h0_ones, .ref h0_reader])), (h0_reader, .inr (6, [.ref h0_reader_bytes, .int h0_reader_length, .int u.1, .int u.2.1, .long u.2.2.1, .int h0_reader_mostBytes, .int h0_reader_behind, .int h0_reader_at, .int u.2.2.2, .int h0_reader_number])), (h0_draft, .inr (7, [.int 1, .int h0_draft_steps, .ref h0_draft_word, .ref h0_draft_first, .ref h0_draft_second, .ref h0_draft_sets]))])) 0 0 := by
  refine oM (cc := cX8_finish) (maxL := 1) (ret := none) (by decide) rfl (Nat.le_of_ble_eq_true rfl) [(0, .ref h0)] rfl ?_
  intro p e s m below meth c A H locs ls hx hb hr hml hts hown hlocks hin hK hP hD hA hS hl
  have hown : s.vm.findClass RX8 = some m.cls := hown
  have k1 := hts (.fieldLink RX8 12 "LidCourt$SentenceReader" "draft" "LLidCourt$Saying;") (by decide +kernel)
  have k2 : ∀ w ∈ wsX80, w ∈ wsX8_finish := fun _ h => List.mem_cons_of_mem _ (List.mem_append_left _ (List.mem_append_left _ (List.mem_append_right _ h)))
  have k3 := hts (.fieldLink RX8 42 "LidCourt$Saying" "present" "Z") (by decide +kernel)
  have k4 : ∀ w ∈ wsX70, w ∈ wsX8_finish := fun _ h => List.mem_cons_of_mem _ (List.mem_append_left _ (List.mem_append_right _ h))
  have k5 := hts (.fieldLink RX8 18 "LidCourt$SentenceReader" "reader" "LLidCourt$Reader;") (by decide +kernel)
  have J18_13 : ∀ (y18_0 : Int32) (y18_1 : Int32) (y18_2 : Int64) (y18_3 : Int32), rg 0 4 y18_0 → ∀ (H : Heap) (locs : List Loc) (ls : Array Slot), va_P D vwCl [(h0, .inr (8, [.ref h0_draft, .int h0_ones, .ref h0_reader])), (h0_reader, .inr (6, [.ref h0_reader_bytes, .int h0_reader_length, .int y18_0, .int y18_1, .long y18_2, .int h0_reader_mostBytes, .int h0_reader_behind, .int h0_reader_at, .int y18_3, .int h0_reader_number])), (h0_draft, .inr (7, [.int h0_draft_present, .int h0_draft_steps, .ref h0_draft_word, .ref h0_draft_first, .ref h0_draft_second, .ref h0_draft_sets]))] H → va_D A [(h0, .inr (8, [.ref h0_draft, .int h0_ones, .ref h0_reader])), (h0_reader, .inr (6, [.ref h0_reader_bytes, .int h0_reader_length, .int y18_0, .int y18_1, .long y18_2, .int h0_reader_mostBytes, .int h0_reader_behind, .int h0_reader_at, .int y18_3, .int h0_reader_number])), (h0_draft, .inr (7, [.int h0_draft_present, .int h0_draft_steps, .ref h0_draft_word, .ref h0_draft_first, .ref h0_draft_second, .ref h0_draft_sets]))] → va_S A s.heap H locs → lv_has ls 1 [(0, .ref h0)] → W p l e ({ frames := 2, cells := 0, slots := 0, locals := 41 } : Room) s m ([.ref h0] : List Value).toArray below meth c H locs 0 0 (MQ below ((oQv D (fun (u : Int32 × Int32 × Int64 × Int32) => (rg 0 4 u.1)) (fun (u : Int32 × Int32 × Int64 × Int32) => [(h0, .inr (8, [.ref h0_draft, .int h0_ones, .ref h0_reader])), (h0_reader, .inr (6, [.ref h0_reader_bytes, .int h0_reader_length, .int u.1, .int u.2.1, .long u.2.2.1, .int h0_reader_mostBytes, .int h0_reader_behind, .int h0_reader_at, .int u.2.2.2, .int h0_reader_number])), (h0_draft, .inr (7, [.int 1, .int h0_draft_steps, .ref h0_draft_word, .ref h0_draft_first, .ref h0_draft_second, .ref h0_draft_sets]))])) A) ([.ref h0] : List Value).toArray s 0 0 A) (F0 m 18 ls []) := by
    intro y18_0 y18_1 y18_2 y18_3 hy18_0 H locs ls hP hD hS hl
    refine lv_aload_n hx hb dX8_finish_18 rfl (lv_at hl 0 rfl) ?_
    refine va_get (D := D) (ci := 8) (v := .ref h0_draft) (C := RX8) (T := TX8) (N := 3) hx hb hts k2 hown hK.1 hP 0 rfl rfl 0 (by decide) k1 (fun _ h9 => h9) rfl dX8_finish_19 ?_
    refine lv_iconst (v := 1) hx hb dX8_finish_22 (by decide) ?_
    refine va_put (D := D) (ci := 7) (v := .int 1) (ty := .boolean) (C := RX7) (T := TX7) (N := 6) hx hb hts k4 tyX7 tyX7_ok nmX7 hown hK.1 hP hD hS 2 rfl rfl 0 (by decide) k3 (fun _ h9 => h9) rfl (by decide +kernel) (by decide) rfl (Nat.le_of_ble_eq_true rfl) dX8_finish_23 (fun H locs hP hD hS => ?_)
    have hP : va_P D vwCl [(h0, .inr (8, [.ref h0_draft, .int h0_ones, .ref h0_reader])), (h0_reader, .inr (6, [.ref h0_reader_bytes, .int h0_reader_length, .int y18_0, .int y18_1, .long y18_2, .int h0_reader_mostBytes, .int h0_reader_behind, .int h0_reader_at, .int y18_3, .int h0_reader_number])), (h0_draft, .inr (7, [.int 1, .int h0_draft_steps, .ref h0_draft_word, .ref h0_draft_first, .ref h0_draft_second, .ref h0_draft_sets]))] H := hP
    have hD : va_D A [(h0, .inr (8, [.ref h0_draft, .int h0_ones, .ref h0_reader])), (h0_reader, .inr (6, [.ref h0_reader_bytes, .int h0_reader_length, .int y18_0, .int y18_1, .long y18_2, .int h0_reader_mostBytes, .int h0_reader_behind, .int h0_reader_at, .int y18_3, .int h0_reader_number])), (h0_draft, .inr (7, [.int 1, .int h0_draft_steps, .ref h0_draft_word, .ref h0_draft_first, .ref h0_draft_second, .ref h0_draft_sets]))] := hD
    exact oE_v hx hb hr hlocks hP hD hS (y18_0, y18_1, y18_2, y18_3) [0, 1, 2] rfl (by decide) hy18_0 (Nat.le_of_ble_eq_true rfl) (Nat.le_of_ble_eq_true rfl) dX8_finish_26
  refine lv_aload_n hx hb dX8_finish_0 rfl (lv_at hl 0 rfl) ?_
  refine va_get (D := D) (ci := 8) (v := .ref h0_reader) (C := RX8) (T := TX8) (N := 3) hx hb hts k2 hown hK.1 hP 0 rfl rfl 2 (by decide) k5 (fun _ h9 => h9) rfl dX8_finish_1 ?_
  refine oC_i (Wc := [(h0_reader, .inr (6, [.ref h0_reader_bytes, .int h0_reader_length, .int h0_reader_faultKind, .int h0_reader_faultAt, .long h0_reader_letters, .int h0_reader_mostBytes, .int h0_reader_behind, .int h0_reader_at, .int h0_reader_kind, .int h0_reader_number]))]) (Wr := [(h0, .inr (8, [.ref h0_draft, .int h0_ones, .ref h0_reader])), (h0_draft, .inr (7, [.int h0_draft_present, .int h0_draft_steps, .ref h0_draft_word, .ref h0_draft_first, .ref h0_draft_second, .ref h0_draft_sets]))]) (va_runV (As := []) (rest := []) ⟨hx, hb, hml, hown, hts⟩ (s_X6_goesOn l D ca H.size h0_reader h0_reader_bytes h0_reader_length h0_reader_faultKind h0_reader_faultAt h0_reader_letters h0_reader_mostBytes h0_reader_behind h0_reader_at h0_reader_kind h0_reader_number i_h0_reader_length i_h0_reader_faultKind i_h0_reader_behind) (cwV 0 hts gX8_finish_X6_goesOn rfl rfl rfl (by decide +kernel) ⟨Nat.le_of_ble_eq_true rfl, Nat.le_of_ble_eq_true rfl⟩) (oPV (C := RX6) hK hP hD [1] rfl (by decide) 0 rfl (ci := 6) rfl rfl) rfl rfl hl.1 rfl (lv_room (Nat.le_of_ble_eq_true rfl)) dX8_finish_4 ⟨Nat.le_of_ble_eq_true rfl, Nat.le_of_ble_eq_true rfl⟩) hP hD hS hA [1] [0, 2] rfl rfl (by decide) (by decide) (fun r_14 u H locs w_15 hP hD hS => ?_)
  obtain ⟨⟩ := u
  have hP : va_P D vwCl [(h0, .inr (8, [.ref h0_draft, .int h0_ones, .ref h0_reader])), (h0_draft, .inr (7, [.int h0_draft_present, .int h0_draft_steps, .ref h0_draft_word, .ref h0_draft_first, .ref h0_draft_second, .ref h0_draft_sets])), (h0_reader, .inr (6, [.ref h0_reader_bytes, .int h0_reader_length, .int h0_reader_faultKind, .int h0_reader_faultAt, .long h0_reader_letters, .int h0_reader_mostBytes, .int h0_reader_behind, .int h0_reader_at, .int h0_reader_kind, .int h0_reader_number]))] H := hP
  have hD : va_D A [(h0, .inr (8, [.ref h0_draft, .int h0_ones, .ref h0_reader])), (h0_draft, .inr (7, [.int h0_draft_present, .int h0_draft_steps, .ref h0_draft_word, .ref h0_draft_first, .ref h0_draft_second, .ref h0_draft_sets])), (h0_reader, .inr (6, [.ref h0_reader_bytes, .int h0_reader_length, .int h0_reader_faultKind, .int h0_reader_faultAt, .long h0_reader_letters, .int h0_reader_mostBytes, .int h0_reader_behind, .int h0_reader_at, .int h0_reader_kind, .int h0_reader_number]))] := hD
  try dsimp only at w_15
  rcases w_15 with h_16 | ⟨h_17, h_18⟩
  · skip
    subst h_16
    refine lv_if_eq (tgt := 18) hx hb dX8_finish_7 (by decide) (fun _ => ?_) (fun c => absurd (by decide) c)
    exact J18_13 h0_reader_faultKind h0_reader_faultAt h0_reader_letters h0_reader_kind i_h0_reader_faultKind H locs ls (oPsub hP [0, 2, 1] rfl) (hD.sub [0, 2, 1] (by decide) rfl) hS (lv_sub hl [0] rfl)
  · skip
    subst h_17
    refine lv_if_eq (tgt := 18) hx hb dX8_finish_7 (by decide) (fun c => absurd c (by decide)) (fun _ => ?_)
    refine lv_aload_n hx hb dX8_finish_10 rfl (lv_at hl 0 rfl) ?_
    refine va_get (D := D) (ci := 8) (v := .ref h0_reader) (C := RX8) (T := TX8) (N := 3) hx hb hts k2 hown hK.1 hP 0 rfl rfl 2 (by decide) k5 (fun _ h9 => h9) rfl dX8_finish_11 ?_
    refine lv_iconst (v := 1) hx hb dX8_finish_14 (by decide) ?_
    refine oC_v (Wc := [(h0_reader, .inr (6, [.ref h0_reader_bytes, .int h0_reader_length, .int h0_reader_faultKind, .int h0_reader_faultAt, .long h0_reader_letters, .int h0_reader_mostBytes, .int h0_reader_behind, .int h0_reader_at, .int h0_reader_kind, .int h0_reader_number]))]) (Wr := [(h0, .inr (8, [.ref h0_draft, .int h0_ones, .ref h0_reader])), (h0_draft, .inr (7, [.int h0_draft_present, .int h0_draft_steps, .ref h0_draft_word, .ref h0_draft_first, .ref h0_draft_second, .ref h0_draft_sets]))]) (va_runV (As := [.int 1]) (rest := []) ⟨hx, hb, hml, hown, hts⟩ (s_X6_fail l D ca H.size h0_reader 1 h0_reader_bytes h0_reader_length h0_reader_faultKind h0_reader_faultAt h0_reader_letters h0_reader_mostBytes h0_reader_behind h0_reader_at h0_reader_kind h0_reader_number (⟨by decide, by decide⟩ : rg 1 4 (1 : Int32)) i_h0_reader_length (rgw (lo := 0) (hi := 4) h_18 (by decide) (by decide)) i_h0_reader_behind) (cwV 1 hts gX8_finish_X6_fail rfl rfl rfl (by decide +kernel) ⟨Nat.le_of_ble_eq_true rfl, Nat.le_of_ble_eq_true rfl⟩) (oPV (C := RX6) hK hP hD [2] rfl (by decide) 0 rfl (ci := 6) rfl rfl) rfl rfl hl.1 rfl (lv_room (Nat.le_of_ble_eq_true rfl)) dX8_finish_15 ⟨Nat.le_of_ble_eq_true rfl, Nat.le_of_ble_eq_true rfl⟩) hP hD hS hA [2] [0, 1] rfl rfl (by decide) (by decide) (fun u H locs w_20 hP hD hS => ?_)
    obtain ⟨u_21, u_22, u_23, u_24⟩ := u
    have hP : va_P D vwCl [(h0, .inr (8, [.ref h0_draft, .int h0_ones, .ref h0_reader])), (h0_draft, .inr (7, [.int h0_draft_present, .int h0_draft_steps, .ref h0_draft_word, .ref h0_draft_first, .ref h0_draft_second, .ref h0_draft_sets])), (h0_reader, .inr (6, [.ref h0_reader_bytes, .int h0_reader_length, .int u_21, .int u_22, .long u_23, .int h0_reader_mostBytes, .int h0_reader_behind, .int h0_reader_at, .int u_24, .int h0_reader_number]))] H := hP
    have hD : va_D A [(h0, .inr (8, [.ref h0_draft, .int h0_ones, .ref h0_reader])), (h0_draft, .inr (7, [.int h0_draft_present, .int h0_draft_steps, .ref h0_draft_word, .ref h0_draft_first, .ref h0_draft_second, .ref h0_draft_sets])), (h0_reader, .inr (6, [.ref h0_reader_bytes, .int h0_reader_length, .int u_21, .int u_22, .long u_23, .int h0_reader_mostBytes, .int h0_reader_behind, .int h0_reader_at, .int u_24, .int h0_reader_number]))] := hD
    try dsimp only at w_20
    have h_25 := w_20
    exact J18_13 u_21 u_22 u_23 u_24 (rgw (lo := 0) (hi := 4) h_25 (by decide) (by decide)) H locs ls (oPsub hP [0, 2, 1] rfl) (hD.sub [0, 2, 1] (by decide) rfl) hS (lv_sub hl [0] rfl)
theorem dX11_sentence_0 : decode cX11_sentence 0 = .ok (.aload_n 0, 1) := by decide +kernel
theorem dX11_sentence_1 : decode cX11_sentence 1 = .ok (.getfield 56, 3) := by decide +kernel
theorem dX11_sentence_4 : decode cX11_sentence 4 = .ok (.invokevirtual 345, 3) := by decide +kernel
theorem dX11_sentence_7 : decode cX11_sentence 7 = .ok (.aload_n 0, 1) := by decide +kernel
theorem dX11_sentence_8 : decode cX11_sentence 8 = .ok (.getfield 56, 3) := by decide +kernel
theorem dX11_sentence_11 : decode cX11_sentence 11 = .ok (.aload_n 0, 1) := by decide +kernel
theorem dX11_sentence_12 : decode cX11_sentence 12 = .ok (.getfield 19, 3) := by decide +kernel
theorem dX11_sentence_15 : decode cX11_sentence 15 = .ok (.iconst 1, 1) := by decide +kernel
theorem dX11_sentence_16 : decode cX11_sentence 16 = .ok (.invokevirtual 347, 3) := by decide +kernel
theorem dX7_compares_0 : decode cX7_compares 0 = .ok (.aload_n 0, 1) := by decide +kernel
theorem dX7_compares_1 : decode cX7_compares 1 = .ok (.getfield 17, 3) := by decide +kernel
theorem dX7_compares_4 : decode cX7_compares 4 = .ok (.iload_n 2, 1) := by decide +kernel
theorem dX7_compares_5 : decode cX7_compares 5 = .ok (.iaload, 1) := by decide +kernel
theorem dX7_compares_6 : decode cX7_compares 6 = .ok (.bipush 60, 2) := by decide +kernel
theorem dX7_compares_8 : decode cX7_compares 8 = .ok (.if_icmp .ne 19, 3) := by decide +kernel
theorem dX7_compares_11 : decode cX7_compares 11 = .ok (.iload_n 1, 1) := by decide +kernel
theorem dX7_compares_12 : decode cX7_compares 12 = .ok (.aload_n 0, 1) := by decide +kernel
theorem dX7_compares_13 : decode cX7_compares 13 = .ok (.getfield 21, 3) := by decide +kernel
theorem dX7_compares_16 : decode cX7_compares 16 = .ok (.iload_n 2, 1) := by decide +kernel
theorem dX7_compares_17 : decode cX7_compares 17 = .ok (.iaload, 1) := by decide +kernel
theorem dX7_compares_18 : decode cX7_compares 18 = .ok (.if_icmp .ge 7, 3) := by decide +kernel
theorem dX7_compares_21 : decode cX7_compares 21 = .ok (.iconst 1, 1) := by decide +kernel
theorem dX7_compares_22 : decode cX7_compares 22 = .ok (.goto 4, 3) := by decide +kernel
theorem dX7_compares_25 : decode cX7_compares 25 = .ok (.iconst 0, 1) := by decide +kernel
theorem dX7_compares_26 : decode cX7_compares 26 = .ok (.ireturn, 1) := by decide +kernel
theorem dX7_compares_27 : decode cX7_compares 27 = .ok (.aload_n 0, 1) := by decide +kernel
theorem dX7_compares_28 : decode cX7_compares 28 = .ok (.getfield 17, 3) := by decide +kernel
theorem dX7_compares_31 : decode cX7_compares 31 = .ok (.iload_n 2, 1) := by decide +kernel
theorem dX7_compares_32 : decode cX7_compares 32 = .ok (.iaload, 1) := by decide +kernel
theorem dX7_compares_33 : decode cX7_compares 33 = .ok (.bipush 61, 2) := by decide +kernel
theorem dX7_compares_35 : decode cX7_compares 35 = .ok (.if_icmp .ne 21, 3) := by decide +kernel
theorem dX7_compares_38 : decode cX7_compares 38 = .ok (.iload_n 1, 1) := by decide +kernel
theorem dX7_compares_39 : decode cX7_compares 39 = .ok (.aload_n 0, 1) := by decide +kernel
theorem dX7_compares_40 : decode cX7_compares 40 = .ok (.getfield 21, 3) := by decide +kernel
theorem dX7_compares_43 : decode cX7_compares 43 = .ok (.iload_n 2, 1) := by decide +kernel
theorem dX7_compares_44 : decode cX7_compares 44 = .ok (.iaload, 1) := by decide +kernel
theorem dX7_compares_45 : decode cX7_compares 45 = .ok (.if_icmp .ne 7, 3) := by decide +kernel
theorem dX7_compares_48 : decode cX7_compares 48 = .ok (.iconst 1, 1) := by decide +kernel
theorem dX7_compares_49 : decode cX7_compares 49 = .ok (.goto 22, 3) := by decide +kernel
theorem dX7_compares_52 : decode cX7_compares 52 = .ok (.iconst 0, 1) := by decide +kernel
theorem dX7_compares_53 : decode cX7_compares 53 = .ok (.goto 18, 3) := by decide +kernel
theorem dX7_compares_56 : decode cX7_compares 56 = .ok (.iload_n 1, 1) := by decide +kernel
theorem dX7_compares_57 : decode cX7_compares 57 = .ok (.aload_n 0, 1) := by decide +kernel
theorem dX7_compares_58 : decode cX7_compares 58 = .ok (.getfield 21, 3) := by decide +kernel
theorem dX7_compares_61 : decode cX7_compares 61 = .ok (.iload_n 2, 1) := by decide +kernel
theorem dX7_compares_62 : decode cX7_compares 62 = .ok (.iaload, 1) := by decide +kernel
theorem dX7_compares_63 : decode cX7_compares 63 = .ok (.if_icmp .le 7, 3) := by decide +kernel
theorem dX7_compares_66 : decode cX7_compares 66 = .ok (.iconst 1, 1) := by decide +kernel
theorem dX7_compares_67 : decode cX7_compares 67 = .ok (.goto 4, 3) := by decide +kernel
theorem dX7_compares_70 : decode cX7_compares 70 = .ok (.iconst 0, 1) := by decide +kernel
theorem dX7_compares_71 : decode cX7_compares 71 = .ok (.ireturn, 1) := by decide +kernel
theorem dX7_copyFrom_0 : decode cX7_copyFrom 0 = .ok (.aload_n 0, 1) := by decide +kernel
theorem dX7_copyFrom_1 : decode cX7_copyFrom 1 = .ok (.aload_n 1, 1) := by decide +kernel
theorem dX7_copyFrom_2 : decode cX7_copyFrom 2 = .ok (.getfield 27, 3) := by decide +kernel
theorem dX7_copyFrom_5 : decode cX7_copyFrom 5 = .ok (.putfield 27, 3) := by decide +kernel
theorem dX7_copyFrom_8 : decode cX7_copyFrom 8 = .ok (.aload_n 0, 1) := by decide +kernel
theorem dX7_copyFrom_9 : decode cX7_copyFrom 9 = .ok (.aload_n 1, 1) := by decide +kernel
theorem dX7_copyFrom_10 : decode cX7_copyFrom 10 = .ok (.getfield 31, 3) := by decide +kernel
theorem dX7_copyFrom_13 : decode cX7_copyFrom 13 = .ok (.putfield 31, 3) := by decide +kernel
theorem dX7_copyFrom_16 : decode cX7_copyFrom 16 = .ok (.iconst 0, 1) := by decide +kernel
theorem dX7_copyFrom_17 : decode cX7_copyFrom 17 = .ok (.istore_n 2, 1) := by decide +kernel
theorem dX7_copyFrom_18 : decode cX7_copyFrom 18 = .ok (.iload_n 2, 1) := by decide +kernel
theorem dX7_copyFrom_19 : decode cX7_copyFrom 19 = .ok (.bipush 40, 2) := by decide +kernel
theorem dX7_copyFrom_21 : decode cX7_copyFrom 21 = .ok (.if_icmp .ge 45, 3) := by decide +kernel
theorem dX7_copyFrom_24 : decode cX7_copyFrom 24 = .ok (.aload_n 0, 1) := by decide +kernel
theorem dX7_copyFrom_25 : decode cX7_copyFrom 25 = .ok (.getfield 13, 3) := by decide +kernel
theorem dX7_copyFrom_28 : decode cX7_copyFrom 28 = .ok (.iload_n 2, 1) := by decide +kernel
theorem dX7_copyFrom_29 : decode cX7_copyFrom 29 = .ok (.aload_n 1, 1) := by decide +kernel
theorem dX7_copyFrom_30 : decode cX7_copyFrom 30 = .ok (.getfield 13, 3) := by decide +kernel
theorem dX7_copyFrom_33 : decode cX7_copyFrom 33 = .ok (.iload_n 2, 1) := by decide +kernel
theorem dX7_copyFrom_34 : decode cX7_copyFrom 34 = .ok (.aaload, 1) := by decide +kernel
theorem dX7_copyFrom_35 : decode cX7_copyFrom 35 = .ok (.aastore, 1) := by decide +kernel
set_option maxRecDepth 20000 in
theorem ggX11_sentence_X8_begin : GoodIn wsX11_sentence wsX8_begin := goodIn_r _ [13, 14, 15, 16, 17, 18, 19, 20, 21, 22, 23, 24, 25, 26, 27, 28, 29, 30, 31, 32, 33, 34, 35, 36, 37, 38, 39, 40, 41, 42, 43, 44, 45, 46, 47, 48, 49, 50, 51, 52, 53, 54, 55, 56, 57, 58, 201, 202, 203, 204, 205, 206, 207, 208, 209, 191, 192, 193, 194, 195, 196, 197, 198, 199, 200] rfl (by decide +kernel)
set_option maxRecDepth 20000 in
theorem gX11_sentence_X8_begin : GoodIn wsX11_sentence (wsV RX11 345 RX8 yX8_begin wsX8_begin) := goodIn_app (goodIn_of _ (by decide +kernel)) ggX11_sentence_X8_begin
set_option maxHeartbeats 4000000 in
set_option maxRecDepth 100000 in
theorem s_X7_compares (l : Launch) (D : va_G) (ca : Nat → ClassId) (sz : Nat) (h0 : Nat) (a1 : Int32) (a2 : Int32) (h0_present : Int32) (h0_steps : Int32) (h0_word : Nat) (h0_first : Nat) (h0_second : Nat) (h0_sets : Nat) (F_h0_first : Nat → Int32) (F_h0_second : Nat → Int32) (i_a2 : rg 0 39 a2) (i_h0_present : rg 0 1 h0_present) (i_h0_steps : rg 0 40 h0_steps) : oMet l yX7_compares wsX7_compares ({ frames := 0, cells := 0, slots := 0, locals := 0 } : Room) [.ref h0, .int a1, .int a2] D ca sz [(h0, .inr (7, [.int h0_present, .int h0_steps, .ref h0_word, .ref h0_first, .ref h0_second, .ref h0_sets])), (aI ca h0_first 40 F_h0_first), (aI ca h0_second 40 F_h0_second)] (oQi D (fun (r : Int32) (u : Unit) => ((r = 0)) ∨ ((r = 1))) (fun (u : Unit) => [(h0, .inr (7, [.int h0_present, .int h0_steps, .ref h0_word, .ref h0_first, .ref h0_second, .ref h0_sets])), (aI ca h0_first 40 F_h0_first), (aI ca h0_second 40 F_h0_second)])) 0 0 := by
  refine oM (cc := cX7_compares) (maxL := 3) (ret := (some .boolean)) (by decide) rfl (Nat.le_of_ble_eq_true rfl) [(0, .ref h0), (1, .int a1), (2, .int a2)] rfl ?_
  intro p e s m below meth c A H locs ls hx hb hr hml hts hown hlocks hin hK hP hD hA hS hl
  have hown : s.vm.findClass RX7 = some m.cls := hown
  have k1 := hts (.fieldLink RX7 17 "LidCourt$Saying" "first" "[I") (by decide +kernel)
  have k2 : ∀ w ∈ wsX70, w ∈ wsX7_compares := fun _ h => List.mem_cons_of_mem _ (List.mem_append_right _ h)
  have k3 := hts (.fieldLink RX7 21 "LidCourt$Saying" "second" "[I") (by decide +kernel)
  refine lv_aload_n hx hb dX7_compares_0 rfl (lv_at hl 0 rfl) ?_
  refine va_get (D := D) (ci := 7) (v := .ref h0_first) (C := RX7) (T := TX7) (N := 6) hx hb hts k2 hown hK.1 hP 0 rfl rfl 3 (by decide) k1 (fun _ h9 => h9) rfl dX7_compares_1 ?_
  refine lv_iload_n hx hb dX7_compares_4 rfl (lv_at hl 2 rfl) ?_
  refine va_iald hx hb hK.1 hP 1 0 rfl rfl (rg_in i_a2 (by decide) (by decide)) dX7_compares_5 ?_
  refine lv_topi (fun x_28 ex_28 => ?_)
  refine lv_bipush (v := 60) hx hb dX7_compares_6 (by decide) ?_
  refine lv_icmp_ne (tgt := 27) hx hb dX7_compares_8 (by decide) (fun c_29 => ?_) (fun c_29 => ?_)
  · skip
    refine lv_aload_n hx hb dX7_compares_27 rfl (lv_at hl 0 rfl) ?_
    refine va_get (D := D) (ci := 7) (v := .ref h0_first) (C := RX7) (T := TX7) (N := 6) hx hb hts k2 hown hK.1 hP 0 rfl rfl 3 (by decide) k1 (fun _ h9 => h9) rfl dX7_compares_28 ?_
    refine lv_iload_n hx hb dX7_compares_31 rfl (lv_at hl 2 rfl) ?_
    refine va_iald hx hb hK.1 hP 1 0 rfl rfl (rg_in i_a2 (by decide) (by decide)) dX7_compares_32 ?_
    refine oti x_28 ex_28.symm ?_
    refine lv_bipush (v := 61) hx hb dX7_compares_33 (by decide) ?_
    refine lv_icmp_ne (tgt := 56) hx hb dX7_compares_35 (by decide) (fun c_30 => ?_) (fun c_30 => ?_)
    · skip
      refine lv_iload_n hx hb dX7_compares_56 rfl (lv_at hl 1 rfl) ?_
      refine lv_aload_n hx hb dX7_compares_57 rfl (lv_at hl 0 rfl) ?_
      refine va_get (D := D) (ci := 7) (v := .ref h0_second) (C := RX7) (T := TX7) (N := 6) hx hb hts k2 hown hK.1 hP 0 rfl rfl 4 (by decide) k3 (fun _ h9 => h9) rfl dX7_compares_58 ?_
      refine lv_iload_n hx hb dX7_compares_61 rfl (lv_at hl 2 rfl) ?_
      refine va_iald hx hb hK.1 hP 2 0 rfl rfl (rg_in i_a2 (by decide) (by decide)) dX7_compares_62 ?_
      refine lv_topi (fun x_31 ex_31 => ?_)
      refine lv_icmp_le (tgt := 70) hx hb dX7_compares_63 (by decide) (fun c_32 => ?_) (fun c_32 => ?_)
      · skip
        have o_33 : rl 0 a1 x_31 := rl_le c_32
        refine lv_iconst (v := 0) hx hb dX7_compares_70 (by decide) ?_
        exact oE_i hx hb hr (by decide) hlocks hP hD hS () [0, 1, 2] rfl (by decide) (Or.inl rfl) (Nat.le_of_ble_eq_true rfl) (Nat.le_of_ble_eq_true rfl) dX7_compares_71
      · skip
        have o_34 : rl 1 x_31 a1 := rl_nle c_32
        have h_35 : rg (-2147483648) 2147483646 x_31 := rl_x o_34 (rga x_31) (rga a1) (by decide) (by decide)
        have h_36 : rg (-2147483647) 2147483647 a1 := rl_y o_34 (rga x_31) (rga a1) (by decide) (by decide)
        refine lv_iconst (v := 1) hx hb dX7_compares_66 (by decide) ?_
        refine lv_goto (tgt := 71) hx hb dX7_compares_67 (by decide) ?_
        exact oE_i hx hb hr (by decide) hlocks hP hD hS () [0, 1, 2] rfl (by decide) (Or.inr (rfl)) (Nat.le_of_ble_eq_true rfl) (Nat.le_of_ble_eq_true rfl) dX7_compares_71
    · skip
      have o_37 : rl 0 x_28 61 := rl_eq c_30
      have h_38 : rg (-2147483648) 61 x_28 := rl_x o_37 (rga x_28) (⟨by decide, by decide⟩ : rg 61 61 (61 : Int32)) (by decide) (by decide)
      have o_39 : rl 0 61 x_28 := rl_eq c_30.symm
      have h_40 : rg 61 61 x_28 := rl_y o_39 (⟨by decide, by decide⟩ : rg 61 61 (61 : Int32)) h_38 (by decide) (by decide)
      refine lv_iload_n hx hb dX7_compares_38 rfl (lv_at hl 1 rfl) ?_
      refine lv_aload_n hx hb dX7_compares_39 rfl (lv_at hl 0 rfl) ?_
      refine va_get (D := D) (ci := 7) (v := .ref h0_second) (C := RX7) (T := TX7) (N := 6) hx hb hts k2 hown hK.1 hP 0 rfl rfl 4 (by decide) k3 (fun _ h9 => h9) rfl dX7_compares_40 ?_
      refine lv_iload_n hx hb dX7_compares_43 rfl (lv_at hl 2 rfl) ?_
      refine va_iald hx hb hK.1 hP 2 0 rfl rfl (rg_in i_a2 (by decide) (by decide)) dX7_compares_44 ?_
      refine lv_topi (fun x_41 ex_41 => ?_)
      refine lv_icmp_ne (tgt := 52) hx hb dX7_compares_45 (by decide) (fun c_42 => ?_) (fun c_42 => ?_)
      · skip
        refine lv_iconst (v := 0) hx hb dX7_compares_52 (by decide) ?_
        refine lv_goto (tgt := 71) hx hb dX7_compares_53 (by decide) ?_
        exact oE_i hx hb hr (by decide) hlocks hP hD hS () [0, 1, 2] rfl (by decide) (Or.inl rfl) (Nat.le_of_ble_eq_true rfl) (Nat.le_of_ble_eq_true rfl) dX7_compares_71
      · skip
        have o_43 : rl 0 a1 x_41 := rl_eq c_42
        have o_44 : rl 0 x_41 a1 := rl_eq c_42.symm
        refine lv_iconst (v := 1) hx hb dX7_compares_48 (by decide) ?_
        refine lv_goto (tgt := 71) hx hb dX7_compares_49 (by decide) ?_
        exact oE_i hx hb hr (by decide) hlocks hP hD hS () [0, 1, 2] rfl (by decide) (Or.inr (rfl)) (Nat.le_of_ble_eq_true rfl) (Nat.le_of_ble_eq_true rfl) dX7_compares_71
  · skip
    have o_45 : rl 0 x_28 60 := rl_eq c_29
    have h_46 : rg (-2147483648) 60 x_28 := rl_x o_45 (rga x_28) (⟨by decide, by decide⟩ : rg 60 60 (60 : Int32)) (by decide) (by decide)
    have o_47 : rl 0 60 x_28 := rl_eq c_29.symm
    have h_48 : rg 60 60 x_28 := rl_y o_47 (⟨by decide, by decide⟩ : rg 60 60 (60 : Int32)) h_46 (by decide) (by decide)
    refine lv_iload_n hx hb dX7_compares_11 rfl (lv_at hl 1 rfl) ?_
    refine lv_aload_n hx hb dX7_compares_12 rfl (lv_at hl 0 rfl) ?_
    refine va_get (D := D) (ci := 7) (v := .ref h0_second) (C := RX7) (T := TX7) (N := 6) hx hb hts k2 hown hK.1 hP 0 rfl rfl 4 (by decide) k3 (fun _ h9 => h9) rfl dX7_compares_13 ?_
    refine lv_iload_n hx hb dX7_compares_16 rfl (lv_at hl 2 rfl) ?_
    refine va_iald hx hb hK.1 hP 2 0 rfl rfl (rg_in i_a2 (by decide) (by decide)) dX7_compares_17 ?_
    refine lv_topi (fun x_49 ex_49 => ?_)
    refine lv_icmp_ge (tgt := 25) hx hb dX7_compares_18 (by decide) (fun c_50 => ?_) (fun c_50 => ?_)
    · skip
      have o_51 : rl 0 x_49 a1 := rl_le c_50
      refine lv_iconst (v := 0) hx hb dX7_compares_25 (by decide) ?_
      exact oE_i hx hb hr (by decide) hlocks hP hD hS () [0, 1, 2] rfl (by decide) (Or.inl rfl) (Nat.le_of_ble_eq_true rfl) (Nat.le_of_ble_eq_true rfl) dX7_compares_26
    · skip
      have o_52 : rl 1 a1 x_49 := rl_nle c_50
      have h_53 : rg (-2147483648) 2147483646 a1 := rl_x o_52 (rga a1) (rga x_49) (by decide) (by decide)
      have h_54 : rg (-2147483647) 2147483647 x_49 := rl_y o_52 (rga a1) (rga x_49) (by decide) (by decide)
      refine lv_iconst (v := 1) hx hb dX7_compares_21 (by decide) ?_
      refine lv_goto (tgt := 26) hx hb dX7_compares_22 (by decide) ?_
      exact oE_i hx hb hr (by decide) hlocks hP hD hS () [0, 1, 2] rfl (by decide) (Or.inr (rfl)) (Nat.le_of_ble_eq_true rfl) (Nat.le_of_ble_eq_true rfl) dX7_compares_26
theorem dX11_count_0 : decode cX11_count 0 = .ok (.iload_n 1, 1) := by decide +kernel
theorem dX11_count_1 : decode cX11_count 1 = .ok (.tableswitch 87 0 5 #[39, 47, 55, 63, 71, 79], 39) := by decide +kernel
theorem dX11_count_40 : decode cX11_count 40 = .ok (.aload_n 0, 1) := by decide +kernel
theorem dX11_count_41 : decode cX11_count 41 = .ok (.getfield 19, 3) := by decide +kernel
theorem dX11_count_44 : decode cX11_count 44 = .ok (.getfield 240, 3) := by decide +kernel
theorem dX11_count_47 : decode cX11_count 47 = .ok (.ireturn, 1) := by decide +kernel
theorem dX11_count_48 : decode cX11_count 48 = .ok (.aload_n 0, 1) := by decide +kernel
theorem dX11_count_49 : decode cX11_count 49 = .ok (.getfield 19, 3) := by decide +kernel
theorem dX11_count_52 : decode cX11_count 52 = .ok (.getfield 372, 3) := by decide +kernel
theorem dX11_count_55 : decode cX11_count 55 = .ok (.ireturn, 1) := by decide +kernel
theorem dX11_count_56 : decode cX11_count 56 = .ok (.aload_n 0, 1) := by decide +kernel
theorem dX11_count_57 : decode cX11_count 57 = .ok (.getfield 19, 3) := by decide +kernel
theorem dX11_count_60 : decode cX11_count 60 = .ok (.getfield 375, 3) := by decide +kernel
theorem dX11_count_63 : decode cX11_count 63 = .ok (.ireturn, 1) := by decide +kernel
theorem dX11_count_64 : decode cX11_count 64 = .ok (.aload_n 0, 1) := by decide +kernel
theorem dX11_count_65 : decode cX11_count 65 = .ok (.getfield 19, 3) := by decide +kernel
theorem dX11_count_68 : decode cX11_count 68 = .ok (.getfield 230, 3) := by decide +kernel
theorem dX11_count_71 : decode cX11_count 71 = .ok (.ireturn, 1) := by decide +kernel
theorem dX11_count_72 : decode cX11_count 72 = .ok (.aload_n 0, 1) := by decide +kernel
theorem dX11_count_73 : decode cX11_count 73 = .ok (.getfield 19, 3) := by decide +kernel
theorem dX11_count_76 : decode cX11_count 76 = .ok (.getfield 378, 3) := by decide +kernel
theorem dX11_count_79 : decode cX11_count 79 = .ok (.ireturn, 1) := by decide +kernel
theorem dX11_count_80 : decode cX11_count 80 = .ok (.aload_n 0, 1) := by decide +kernel
theorem dX11_count_81 : decode cX11_count 81 = .ok (.getfield 10, 3) := by decide +kernel
theorem dX11_count_84 : decode cX11_count 84 = .ok (.getfield 102, 3) := by decide +kernel
theorem dX11_count_87 : decode cX11_count 87 = .ok (.ireturn, 1) := by decide +kernel
theorem dX11_count_88 : decode cX11_count 88 = .ok (.iconst (-1), 1) := by decide +kernel
theorem dX11_count_89 : decode cX11_count 89 = .ok (.ireturn, 1) := by decide +kernel
theorem dX11_image_0 : decode cX11_image 0 = .ok (.iload_n 1, 1) := by decide +kernel
theorem dX11_image_1 : decode cX11_image 1 = .ok (.ifCond .lt 8, 3) := by decide +kernel
theorem dX11_image_4 : decode cX11_image 4 = .ok (.iload_n 1, 1) := by decide +kernel
theorem dX11_image_5 : decode cX11_image 5 = .ok (.iconst 2, 1) := by decide +kernel
theorem dX11_image_6 : decode cX11_image 6 = .ok (.if_icmp .lt 5, 3) := by decide +kernel
theorem dX11_image_9 : decode cX11_image 9 = .ok (.iconst 0, 1) := by decide +kernel
theorem dX11_image_10 : decode cX11_image 10 = .ok (.ireturn, 1) := by decide +kernel
theorem dX11_image_11 : decode cX11_image 11 = .ok (.aload_n 0, 1) := by decide +kernel
theorem dX11_image_12 : decode cX11_image 12 = .ok (.getfield 79, 3) := by decide +kernel
theorem dX11_image_15 : decode cX11_image 15 = .ok (.iload_n 1, 1) := by decide +kernel
theorem dX11_image_16 : decode cX11_image 16 = .ok (.aaload, 1) := by decide +kernel
theorem dX11_image_17 : decode cX11_image 17 = .ok (.iconst 1, 1) := by decide +kernel
theorem dX11_image_18 : decode cX11_image 18 = .ok (.putfield 366, 3) := by decide +kernel
theorem dX11_image_21 : decode cX11_image 21 = .ok (.aload_n 0, 1) := by decide +kernel
theorem dX11_image_22 : decode cX11_image 22 = .ok (.getfield 79, 3) := by decide +kernel
theorem dX11_image_25 : decode cX11_image 25 = .ok (.iload_n 1, 1) := by decide +kernel
theorem dX11_image_26 : decode cX11_image 26 = .ok (.aaload, 1) := by decide +kernel
theorem dX11_image_27 : decode cX11_image 27 = .ok (.getfield 369, 3) := by decide +kernel
theorem dX11_image_30 : decode cX11_image 30 = .ok (.aload_n 0, 1) := by decide +kernel
theorem dX11_image_31 : decode cX11_image 31 = .ok (.getfield 19, 3) := by decide +kernel
theorem dX11_image_34 : decode cX11_image 34 = .ok (.invokevirtual 124, 3) := by decide +kernel
theorem dX11_image_37 : decode cX11_image 37 = .ok (.aload_n 0, 1) := by decide +kernel
theorem dX11_image_38 : decode cX11_image 38 = .ok (.getfield 79, 3) := by decide +kernel
theorem dX11_image_41 : decode cX11_image 41 = .ok (.iload_n 1, 1) := by decide +kernel
theorem dX11_image_42 : decode cX11_image 42 = .ok (.aaload, 1) := by decide +kernel
theorem dX11_image_43 : decode cX11_image 43 = .ok (.getfield 370, 3) := by decide +kernel
theorem dX11_image_46 : decode cX11_image 46 = .ok (.aload_n 0, 1) := by decide +kernel
theorem dX11_image_47 : decode cX11_image 47 = .ok (.getfield 26, 3) := by decide +kernel
theorem dX11_image_50 : decode cX11_image 50 = .ok (.invokevirtual 335, 3) := by decide +kernel
theorem dX11_image_53 : decode cX11_image 53 = .ok (.aload_n 0, 1) := by decide +kernel
theorem dX11_image_54 : decode cX11_image 54 = .ok (.getfield 79, 3) := by decide +kernel
theorem dX11_image_57 : decode cX11_image 57 = .ok (.iload_n 1, 1) := by decide +kernel
theorem dX11_image_58 : decode cX11_image 58 = .ok (.aaload, 1) := by decide +kernel
theorem dX11_image_59 : decode cX11_image 59 = .ok (.getfield 371, 3) := by decide +kernel
theorem dX11_image_62 : decode cX11_image 62 = .ok (.aload_n 0, 1) := by decide +kernel
theorem dX11_image_63 : decode cX11_image 63 = .ok (.getfield 33, 3) := by decide +kernel
theorem dX11_image_66 : decode cX11_image 66 = .ok (.invokevirtual 356, 3) := by decide +kernel
theorem dX11_restore_0 : decode cX11_restore 0 = .ok (.iload_n 1, 1) := by decide +kernel
theorem dX11_restore_1 : decode cX11_restore 1 = .ok (.ifCond .lt 20, 3) := by decide +kernel
theorem dX11_restore_4 : decode cX11_restore 4 = .ok (.iload_n 1, 1) := by decide +kernel
theorem dX11_restore_5 : decode cX11_restore 5 = .ok (.iconst 2, 1) := by decide +kernel
theorem dX11_restore_6 : decode cX11_restore 6 = .ok (.if_icmp .ge 15, 3) := by decide +kernel
theorem dX11_restore_9 : decode cX11_restore 9 = .ok (.aload_n 0, 1) := by decide +kernel
theorem dX11_restore_10 : decode cX11_restore 10 = .ok (.getfield 79, 3) := by decide +kernel
theorem dX11_restore_13 : decode cX11_restore 13 = .ok (.iload_n 1, 1) := by decide +kernel
theorem dX11_restore_14 : decode cX11_restore 14 = .ok (.aaload, 1) := by decide +kernel
theorem dX11_restore_15 : decode cX11_restore 15 = .ok (.getfield 366, 3) := by decide +kernel
theorem dX11_restore_18 : decode cX11_restore 18 = .ok (.ifCond .ne 5, 3) := by decide +kernel
theorem dX11_restore_21 : decode cX11_restore 21 = .ok (.iconst 0, 1) := by decide +kernel
theorem dX11_restore_22 : decode cX11_restore 22 = .ok (.ireturn, 1) := by decide +kernel
theorem dX11_restore_23 : decode cX11_restore 23 = .ok (.aload_n 0, 1) := by decide +kernel
theorem dX11_restore_24 : decode cX11_restore 24 = .ok (.getfield 19, 3) := by decide +kernel
theorem dX11_restore_27 : decode cX11_restore 27 = .ok (.aload_n 0, 1) := by decide +kernel
theorem dX11_restore_28 : decode cX11_restore 28 = .ok (.getfield 79, 3) := by decide +kernel
theorem dX11_restore_31 : decode cX11_restore 31 = .ok (.iload_n 1, 1) := by decide +kernel
theorem dX11_restore_32 : decode cX11_restore 32 = .ok (.aaload, 1) := by decide +kernel
theorem dX11_restore_33 : decode cX11_restore 33 = .ok (.getfield 369, 3) := by decide +kernel
theorem dX11_restore_36 : decode cX11_restore 36 = .ok (.invokevirtual 124, 3) := by decide +kernel
theorem dX11_restore_39 : decode cX11_restore 39 = .ok (.aload_n 0, 1) := by decide +kernel
theorem dX11_restore_40 : decode cX11_restore 40 = .ok (.getfield 26, 3) := by decide +kernel
theorem dX11_restore_43 : decode cX11_restore 43 = .ok (.aload_n 0, 1) := by decide +kernel
theorem dX11_restore_44 : decode cX11_restore 44 = .ok (.getfield 79, 3) := by decide +kernel
theorem dX11_restore_47 : decode cX11_restore 47 = .ok (.iload_n 1, 1) := by decide +kernel
theorem dX11_restore_48 : decode cX11_restore 48 = .ok (.aaload, 1) := by decide +kernel
theorem dX11_restore_49 : decode cX11_restore 49 = .ok (.getfield 370, 3) := by decide +kernel
theorem dX11_restore_52 : decode cX11_restore 52 = .ok (.invokevirtual 335, 3) := by decide +kernel
theorem dX11_restore_55 : decode cX11_restore 55 = .ok (.aload_n 0, 1) := by decide +kernel
theorem dX11_restore_56 : decode cX11_restore 56 = .ok (.getfield 33, 3) := by decide +kernel
theorem dX11_restore_59 : decode cX11_restore 59 = .ok (.aload_n 0, 1) := by decide +kernel
theorem dX11_restore_60 : decode cX11_restore 60 = .ok (.getfield 79, 3) := by decide +kernel
theorem dX11_restore_63 : decode cX11_restore 63 = .ok (.iload_n 1, 1) := by decide +kernel
theorem dX11_restore_64 : decode cX11_restore 64 = .ok (.aaload, 1) := by decide +kernel
theorem dX11_restore_65 : decode cX11_restore 65 = .ok (.getfield 371, 3) := by decide +kernel
theorem dX11_restore_68 : decode cX11_restore 68 = .ok (.invokevirtual 356, 3) := by decide +kernel
theorem dX11_said_0 : decode cX11_said 0 = .ok (.aload_n 0, 1) := by decide +kernel
theorem dX11_said_1 : decode cX11_said 1 = .ok (.getfield 33, 3) := by decide +kernel
theorem dX11_said_4 : decode cX11_said 4 = .ok (.getfield 127, 3) := by decide +kernel
theorem dX11_said_7 : decode cX11_said 7 = .ok (.ifCond .eq 8, 3) := by decide +kernel
theorem dX11_said_10 : decode cX11_said 10 = .ok (.iload_n 1, 1) := by decide +kernel
theorem dX11_said_11 : decode cX11_said 11 = .ok (.iconst (-1), 1) := by decide +kernel
theorem dX11_said_12 : decode cX11_said 12 = .ok (.if_icmp .ge 5, 3) := by decide +kernel
theorem dX11_said_15 : decode cX11_said 15 = .ok (.iconst (-1), 1) := by decide +kernel
theorem dX11_said_16 : decode cX11_said 16 = .ok (.ireturn, 1) := by decide +kernel
theorem dX11_said_17 : decode cX11_said 17 = .ok (.aload_n 0, 1) := by decide +kernel
theorem dX11_said_18 : decode cX11_said 18 = .ok (.getfield 33, 3) := by decide +kernel
theorem dX11_said_21 : decode cX11_said 21 = .ok (.aload_n 0, 1) := by decide +kernel
theorem dX11_said_22 : decode cX11_said 22 = .ok (.getfield 19, 3) := by decide +kernel
theorem dX11_said_25 : decode cX11_said 25 = .ok (.aload_n 0, 1) := by decide +kernel
theorem dX11_said_26 : decode cX11_said 26 = .ok (.getfield 26, 3) := by decide +kernel
theorem dX11_said_29 : decode cX11_said 29 = .ok (.invokevirtual 362, 3) := by decide +kernel
theorem dX7_isSo_0 : decode cX7_isSo 0 = .ok (.aload_n 0, 1) := by decide +kernel
theorem dX7_isSo_1 : decode cX7_isSo 1 = .ok (.getfield 13, 3) := by decide +kernel
theorem dX7_isSo_4 : decode cX7_isSo 4 = .ok (.iload_n 3, 1) := by decide +kernel
theorem dX7_isSo_5 : decode cX7_isSo 5 = .ok (.aaload, 1) := by decide +kernel
theorem dX7_isSo_6 : decode cX7_isSo 6 = .ok (.astore 5, 2) := by decide +kernel
theorem dX7_isSo_8 : decode cX7_isSo 8 = .ok (.aload 5, 2) := by decide +kernel
theorem dX7_isSo_10 : decode cX7_isSo 10 = .ok (.getstatic 72, 3) := by decide +kernel
theorem dX7_isSo_13 : decode cX7_isSo 13 = .ok (.if_acmp .ne 19, 3) := by decide +kernel
theorem dX7_isSo_32 : decode cX7_isSo 32 = .ok (.aload 5, 2) := by decide +kernel
theorem dX7_isSo_34 : decode cX7_isSo 34 = .ok (.getstatic 78, 3) := by decide +kernel
theorem dX7_isSo_37 : decode cX7_isSo 37 = .ok (.if_acmp .ne 58, 3) := by decide +kernel
theorem dX7_isSo_40 : decode cX7_isSo 40 = .ok (.aload_n 2, 1) := by decide +kernel
theorem dX7_isSo_41 : decode cX7_isSo 41 = .ok (.aload_n 1, 1) := by decide +kernel
theorem dX7_isSo_42 : decode cX7_isSo 42 = .ok (.iload 4, 2) := by decide +kernel
theorem dX7_isSo_44 : decode cX7_isSo 44 = .ok (.aload_n 0, 1) := by decide +kernel
theorem dX7_isSo_45 : decode cX7_isSo 45 = .ok (.getfield 17, 3) := by decide +kernel
theorem dX7_isSo_48 : decode cX7_isSo 48 = .ok (.iload_n 3, 1) := by decide +kernel
theorem dX7_isSo_49 : decode cX7_isSo 49 = .ok (.iaload, 1) := by decide +kernel
theorem dX7_isSo_50 : decode cX7_isSo 50 = .ok (.invokevirtual 81, 3) := by decide +kernel
theorem dX7_isSo_95 : decode cX7_isSo 95 = .ok (.aload 5, 2) := by decide +kernel
theorem dX7_isSo_97 : decode cX7_isSo 97 = .ok (.getstatic 94, 3) := by decide +kernel
theorem dX7_isSo_100 : decode cX7_isSo 100 = .ok (.if_acmp .ne 16, 3) := by decide +kernel
theorem dX7_isSo_103 : decode cX7_isSo 103 = .ok (.aload_n 0, 1) := by decide +kernel
theorem dX7_isSo_104 : decode cX7_isSo 104 = .ok (.aload_n 1, 1) := by decide +kernel
theorem dX7_isSo_105 : decode cX7_isSo 105 = .ok (.getfield 97, 3) := by decide +kernel
theorem dX7_isSo_108 : decode cX7_isSo 108 = .ok (.iload 4, 2) := by decide +kernel
theorem dX7_isSo_110 : decode cX7_isSo 110 = .ok (.iaload, 1) := by decide +kernel
theorem dX7_isSo_111 : decode cX7_isSo 111 = .ok (.iload_n 3, 1) := by decide +kernel
theorem dX7_isSo_112 : decode cX7_isSo 112 = .ok (.invokevirtual 100, 3) := by decide +kernel
theorem dX7_isSo_115 : decode cX7_isSo 115 = .ok (.ireturn, 1) := by decide +kernel
theorem dX7_isSo_116 : decode cX7_isSo 116 = .ok (.aload 5, 2) := by decide +kernel
theorem dX7_isSo_118 : decode cX7_isSo 118 = .ok (.getstatic 104, 3) := by decide +kernel
theorem dX7_isSo_121 : decode cX7_isSo 121 = .ok (.if_acmp .ne 16, 3) := by decide +kernel
theorem dX7_isSo_124 : decode cX7_isSo 124 = .ok (.aload_n 0, 1) := by decide +kernel
theorem dX7_isSo_125 : decode cX7_isSo 125 = .ok (.aload_n 1, 1) := by decide +kernel
theorem dX7_isSo_126 : decode cX7_isSo 126 = .ok (.getfield 107, 3) := by decide +kernel
theorem dX7_isSo_129 : decode cX7_isSo 129 = .ok (.iload 4, 2) := by decide +kernel
theorem dX7_isSo_131 : decode cX7_isSo 131 = .ok (.iaload, 1) := by decide +kernel
theorem dX7_isSo_132 : decode cX7_isSo 132 = .ok (.iload_n 3, 1) := by decide +kernel
theorem dX7_isSo_133 : decode cX7_isSo 133 = .ok (.invokevirtual 100, 3) := by decide +kernel
theorem dX7_isSo_136 : decode cX7_isSo 136 = .ok (.ireturn, 1) := by decide +kernel
theorem dX7_isSo_137 : decode cX7_isSo 137 = .ok (.aload_n 0, 1) := by decide +kernel
theorem dX7_isSo_138 : decode cX7_isSo 138 = .ok (.aload 5, 2) := by decide +kernel
theorem dX7_isSo_140 : decode cX7_isSo 140 = .ok (.getstatic 110, 3) := by decide +kernel
theorem dX7_isSo_143 : decode cX7_isSo 143 = .ok (.if_acmp .ne 13, 3) := by decide +kernel
theorem dX7_isSo_146 : decode cX7_isSo 146 = .ok (.aload_n 2, 1) := by decide +kernel
theorem dX7_isSo_147 : decode cX7_isSo 147 = .ok (.getfield 75, 3) := by decide +kernel
theorem dX7_isSo_150 : decode cX7_isSo 150 = .ok (.iload 4, 2) := by decide +kernel
theorem dX7_isSo_152 : decode cX7_isSo 152 = .ok (.iaload, 1) := by decide +kernel
theorem dX7_isSo_153 : decode cX7_isSo 153 = .ok (.goto 5, 3) := by decide +kernel
theorem dX7_isSo_156 : decode cX7_isSo 156 = .ok (.iload 4, 2) := by decide +kernel
theorem dX7_saidOf_0 : decode cX7_saidOf 0 = .ok (.iconst 1, 1) := by decide +kernel
theorem dX7_saidOf_1 : decode cX7_saidOf 1 = .ok (.aload_n 1, 1) := by decide +kernel
theorem dX7_saidOf_2 : decode cX7_saidOf 2 = .ok (.getfield 35, 3) := by decide +kernel
theorem dX7_saidOf_5 : decode cX7_saidOf 5 = .ok (.ishl, 1) := by decide +kernel
theorem dX7_saidOf_6 : decode cX7_saidOf 6 = .ok (.iconst 1, 1) := by decide +kernel
theorem dX7_saidOf_7 : decode cX7_saidOf 7 = .ok (.isub, 1) := by decide +kernel
theorem dX7_saidOf_8 : decode cX7_saidOf 8 = .ok (.istore_n 3, 1) := by decide +kernel
theorem dX7_saidOf_9 : decode cX7_saidOf 9 = .ok (.iconst 0, 1) := by decide +kernel
theorem dX7_saidOf_10 : decode cX7_saidOf 10 = .ok (.istore 4, 2) := by decide +kernel
theorem dX7_saidOf_12 : decode cX7_saidOf 12 = .ok (.iconst 0, 1) := by decide +kernel
theorem dX7_saidOf_13 : decode cX7_saidOf 13 = .ok (.istore 5, 2) := by decide +kernel
theorem dX7_saidOf_15 : decode cX7_saidOf 15 = .ok (.iload 5, 2) := by decide +kernel
theorem dX7_saidOf_17 : decode cX7_saidOf 17 = .ok (.aload_n 0, 1) := by decide +kernel
theorem dX7_saidOf_18 : decode cX7_saidOf 18 = .ok (.getfield 31, 3) := by decide +kernel
theorem dX7_saidOf_21 : decode cX7_saidOf 21 = .ok (.if_icmp .ge 166, 3) := by decide +kernel
theorem dX7_saidOf_24 : decode cX7_saidOf 24 = .ok (.aload_n 0, 1) := by decide +kernel
theorem dX7_saidOf_25 : decode cX7_saidOf 25 = .ok (.getfield 13, 3) := by decide +kernel
theorem dX7_saidOf_28 : decode cX7_saidOf 28 = .ok (.iload 5, 2) := by decide +kernel
theorem dX7_saidOf_30 : decode cX7_saidOf 30 = .ok (.aaload, 1) := by decide +kernel
theorem dX7_saidOf_31 : decode cX7_saidOf 31 = .ok (.getstatic 40, 3) := by decide +kernel
theorem dX7_saidOf_34 : decode cX7_saidOf 34 = .ok (.if_acmp .ne 25, 3) := by decide +kernel
theorem dX7_saidOf_59 : decode cX7_saidOf 59 = .ok (.aload_n 0, 1) := by decide +kernel
theorem dX7_saidOf_60 : decode cX7_saidOf 60 = .ok (.getfield 13, 3) := by decide +kernel
theorem dX7_saidOf_63 : decode cX7_saidOf 63 = .ok (.iload 5, 2) := by decide +kernel
theorem dX7_saidOf_65 : decode cX7_saidOf 65 = .ok (.aaload, 1) := by decide +kernel
theorem dX7_saidOf_66 : decode cX7_saidOf 66 = .ok (.getstatic 44, 3) := by decide +kernel
theorem dX7_saidOf_69 : decode cX7_saidOf 69 = .ok (.if_acmp .eq 16, 3) := by decide +kernel
theorem dX7_saidOf_72 : decode cX7_saidOf 72 = .ok (.aload_n 0, 1) := by decide +kernel
theorem dX7_saidOf_73 : decode cX7_saidOf 73 = .ok (.getfield 13, 3) := by decide +kernel
theorem dX7_saidOf_76 : decode cX7_saidOf 76 = .ok (.iload 5, 2) := by decide +kernel
theorem dX7_saidOf_78 : decode cX7_saidOf 78 = .ok (.aaload, 1) := by decide +kernel
theorem dX7_saidOf_79 : decode cX7_saidOf 79 = .ok (.getstatic 47, 3) := by decide +kernel
theorem dX7_saidOf_82 : decode cX7_saidOf 82 = .ok (.if_acmp .ne 74, 3) := by decide +kernel
theorem dX7_saidOf_156 : decode cX7_saidOf 156 = .ok (.iload 4, 2) := by decide +kernel
theorem dX7_saidOf_158 : decode cX7_saidOf 158 = .ok (.bipush 20, 2) := by decide +kernel
theorem dX7_saidOf_160 : decode cX7_saidOf 160 = .ok (.if_icmp .ge 21, 3) := by decide +kernel
theorem dX7_saidOf_163 : decode cX7_saidOf 163 = .ok (.aload_n 0, 1) := by decide +kernel
theorem dX7_saidOf_164 : decode cX7_saidOf 164 = .ok (.getfield 24, 3) := by decide +kernel
theorem dX7_saidOf_167 : decode cX7_saidOf 167 = .ok (.iload 4, 2) := by decide +kernel
theorem dX7_saidOf_169 : decode cX7_saidOf 169 = .ok (.aload_n 0, 1) := by decide +kernel
theorem dX7_saidOf_170 : decode cX7_saidOf 170 = .ok (.aload_n 1, 1) := by decide +kernel
theorem dX7_saidOf_171 : decode cX7_saidOf 171 = .ok (.aload_n 2, 1) := by decide +kernel
theorem dX7_saidOf_172 : decode cX7_saidOf 172 = .ok (.iload 5, 2) := by decide +kernel
theorem dX7_saidOf_174 : decode cX7_saidOf 174 = .ok (.invokevirtual 50, 3) := by decide +kernel
theorem dX7_saidOf_187 : decode cX7_saidOf 187 = .ok (.iload 4, 2) := by decide +kernel
theorem dX7_saidOf_189 : decode cX7_saidOf 189 = .ok (.ifCond .le 12, 3) := by decide +kernel
theorem dX7_saidOf_201 : decode cX7_saidOf 201 = .ok (.iconst 0, 1) := by decide +kernel
theorem dX7_saidOf_202 : decode cX7_saidOf 202 = .ok (.ireturn, 1) := by decide +kernel
theorem dX7_setOf_0 : decode cX7_setOf 0 = .ok (.aload_n 0, 1) := by decide +kernel
theorem dX7_setOf_1 : decode cX7_setOf 1 = .ok (.getfield 13, 3) := by decide +kernel
theorem dX7_setOf_4 : decode cX7_setOf 4 = .ok (.iload_n 3, 1) := by decide +kernel
theorem dX7_setOf_5 : decode cX7_setOf 5 = .ok (.aaload, 1) := by decide +kernel
theorem dX7_setOf_6 : decode cX7_setOf 6 = .ok (.getstatic 54, 3) := by decide +kernel
theorem dX7_setOf_9 : decode cX7_setOf 9 = .ok (.if_acmp .ne 8, 3) := by decide +kernel
theorem dX7_setOf_12 : decode cX7_setOf 12 = .ok (.aload_n 2, 1) := by decide +kernel
theorem dX7_setOf_13 : decode cX7_setOf 13 = .ok (.getfield 57, 3) := by decide +kernel
theorem dX7_setOf_16 : decode cX7_setOf 16 = .ok (.ireturn, 1) := by decide +kernel
theorem dX7_setOf_17 : decode cX7_setOf 17 = .ok (.aload_n 0, 1) := by decide +kernel
theorem dX7_setOf_18 : decode cX7_setOf 18 = .ok (.getfield 13, 3) := by decide +kernel
theorem dX7_setOf_21 : decode cX7_setOf 21 = .ok (.iload_n 3, 1) := by decide +kernel
theorem dX7_setOf_22 : decode cX7_setOf 22 = .ok (.aaload, 1) := by decide +kernel
theorem dX7_setOf_23 : decode cX7_setOf 23 = .ok (.getstatic 62, 3) := by decide +kernel
theorem dX7_setOf_26 : decode cX7_setOf 26 = .ok (.if_acmp .ne 8, 3) := by decide +kernel
theorem dX7_setOf_29 : decode cX7_setOf 29 = .ok (.aload_n 2, 1) := by decide +kernel
theorem dX7_setOf_30 : decode cX7_setOf 30 = .ok (.getfield 65, 3) := by decide +kernel
theorem dX7_setOf_33 : decode cX7_setOf 33 = .ok (.ireturn, 1) := by decide +kernel
theorem dX7_setOf_34 : decode cX7_setOf 34 = .ok (.iconst 0, 1) := by decide +kernel
theorem dX7_setOf_35 : decode cX7_setOf 35 = .ok (.istore 4, 2) := by decide +kernel
theorem dX7_setOf_37 : decode cX7_setOf 37 = .ok (.iconst 0, 1) := by decide +kernel
theorem dX7_setOf_38 : decode cX7_setOf 38 = .ok (.istore 5, 2) := by decide +kernel
theorem dX7_setOf_40 : decode cX7_setOf 40 = .ok (.iload 5, 2) := by decide +kernel
theorem dX7_setOf_42 : decode cX7_setOf 42 = .ok (.aload_n 1, 1) := by decide +kernel
theorem dX7_setOf_43 : decode cX7_setOf 43 = .ok (.getfield 35, 3) := by decide +kernel
theorem dX7_setOf_46 : decode cX7_setOf 46 = .ok (.if_icmp .ge 30, 3) := by decide +kernel
theorem dX7_setOf_49 : decode cX7_setOf 49 = .ok (.aload_n 0, 1) := by decide +kernel
theorem dX7_setOf_50 : decode cX7_setOf 50 = .ok (.aload_n 1, 1) := by decide +kernel
theorem dX7_setOf_51 : decode cX7_setOf 51 = .ok (.aload_n 2, 1) := by decide +kernel
theorem dX7_setOf_52 : decode cX7_setOf 52 = .ok (.iload_n 3, 1) := by decide +kernel
theorem dX7_setOf_53 : decode cX7_setOf 53 = .ok (.iload 5, 2) := by decide +kernel
theorem dX7_setOf_55 : decode cX7_setOf 55 = .ok (.invokevirtual 68, 3) := by decide +kernel
theorem dX7_setOf_76 : decode cX7_setOf 76 = .ok (.iload 4, 2) := by decide +kernel
theorem dX7_setOf_78 : decode cX7_setOf 78 = .ok (.ireturn, 1) := by decide +kernel
set_option maxRecDepth 20000 in
theorem ggX7_isSo_X7_compares : GoodIn wsX7_isSo wsX7_compares := goodIn_r _ [39, 5, 6, 40, 41, 42, 43, 44, 45] rfl (by decide +kernel)
set_option maxRecDepth 20000 in
theorem gX7_isSo_X7_compares : GoodIn wsX7_isSo (wsV RX7 100 RX7 yX7_compares wsX7_compares) := goodIn_app (goodIn_of _ (by decide +kernel)) ggX7_isSo_X7_compares
set_option maxRecDepth 20000 in
theorem ggX11_image_X5_copyFrom : GoodIn wsX11_image wsX5_copyFrom := goodIn_r _ [13, 14, 15, 16, 17, 18, 19, 20, 21, 22, 23, 24, 25, 26, 27, 28, 29, 30, 31, 32, 33, 80, 81, 82, 83, 84, 85, 86, 87, 88, 89, 90, 91, 92, 93, 94, 95] rfl (by decide +kernel)
set_option maxRecDepth 20000 in
theorem gX11_image_X5_copyFrom : GoodIn wsX11_image (wsV RX11 124 RX5 yX5_copyFrom wsX5_copyFrom) := goodIn_app (goodIn_of _ (by decide +kernel)) ggX11_image_X5_copyFrom
set_option maxRecDepth 20000 in
theorem ggX11_image_X9_copyFrom : GoodIn wsX11_image wsX9_copyFrom := goodIn_r _ [38, 39, 40, 41, 42, 43, 44, 45, 22, 23, 24, 46, 47, 48, 49, 50, 96, 97, 98, 99, 100, 101, 102, 103, 104, 105, 106] rfl (by decide +kernel)
set_option maxRecDepth 20000 in
theorem gX11_image_X9_copyFrom : GoodIn wsX11_image (wsV RX11 335 RX9 yX9_copyFrom wsX9_copyFrom) := goodIn_app (goodIn_of _ (by decide +kernel)) ggX11_image_X9_copyFrom
set_option maxRecDepth 20000 in
theorem ggX11_restore_X5_copyFrom : GoodIn wsX11_restore wsX5_copyFrom := goodIn_r _ [14, 15, 16, 17, 18, 19, 20, 21, 22, 23, 24, 25, 26, 27, 28, 29, 30, 31, 32, 33, 34, 87, 88, 89, 90, 91, 92, 93, 94, 95, 96, 97, 98, 99, 100, 101, 102] rfl (by decide +kernel)
set_option maxRecDepth 20000 in
theorem gX11_restore_X5_copyFrom : GoodIn wsX11_restore (wsV RX11 124 RX5 yX5_copyFrom wsX5_copyFrom) := goodIn_app (goodIn_of _ (by decide +kernel)) ggX11_restore_X5_copyFrom
set_option maxRecDepth 20000 in
theorem ggX11_restore_X9_copyFrom : GoodIn wsX11_restore wsX9_copyFrom := goodIn_r _ [39, 40, 41, 42, 43, 44, 45, 46, 23, 24, 25, 47, 48, 49, 50, 51, 103, 104, 105, 106, 107, 108, 109, 110, 111, 112, 113] rfl (by decide +kernel)
set_option maxRecDepth 20000 in
theorem gX11_restore_X9_copyFrom : GoodIn wsX11_restore (wsV RX11 335 RX9 yX9_copyFrom wsX9_copyFrom) := goodIn_app (goodIn_of _ (by decide +kernel)) ggX11_restore_X9_copyFrom
set_option maxHeartbeats 4000000 in
set_option maxRecDepth 100000 in
theorem s_X11_count (l : Launch) (D : va_G) (ca : Nat → ClassId) (sz : Nat) (h0 : Nat) (a1 : Int32) (h0_tape : Nat) (h0_law : Nat) (h0_standing : Nat) (h0_saying : Nat) (h0_courtReader : Nat) (h0_bookReader : Nat) (h0_sentenceReader : Nat) (h0_bench : Nat) (h0_whatIf : Nat) (h0_history : Nat) (h0_images : Nat) (h0_latest : Nat) (h0_latestBook : Nat) (h0_latestRoll : Nat) (h0_rollLength : Int32) (h0_law_jurors : Int32) (h0_law_floors : Int32) (h0_law_cases : Int32) (h0_law_one : Int32) (h0_law_dent : Int32) (h0_law_seated : Int32) (h0_law_jurorName : Nat) (h0_law_floorName : Nat) (h0_law_caseName : Nat) (h0_law_pitch : Nat) (h0_law_length : Nat) (h0_law_hands : Nat) (h0_law_tune : Nat) (h0_law_dull : Nat) (h0_law_caseFloor : Nat) (h0_law_tuned : Nat) (h0_tape_bytes : Nat) (h0_tape_length : Int32) (h0_tape_faultKind : Int32) (h0_tape_faultAt : Int32) (h0_tape_letters : Int64) (h0_tape_mostBytes : Int32) (h0_tape_behind : Int32) (h0_tape_at : Int32) (h0_tape_kind : Int32) (h0_tape_number : Int32) (i_h0_rollLength : rg 0 40 h0_rollLength) (i_h0_law_jurors : rg 0 10 h0_law_jurors) (i_h0_law_floors : rg 0 4 h0_law_floors) (i_h0_law_cases : rg 0 5 h0_law_cases) (i_h0_law_seated : rg 0 1023 h0_law_seated) (i_h0_tape_length : rg 0 940 h0_tape_length) (i_h0_tape_faultKind : rg 0 4 h0_tape_faultKind) (i_h0_tape_behind : rg 0 940 h0_tape_behind) : oMet l yX11_count wsX11_count ({ frames := 0, cells := 0, slots := 0, locals := 0 } : Room) [.ref h0, .int a1] D ca sz [(h0, .inr (10, [.ref h0_tape, .ref h0_law, .ref h0_standing, .ref h0_saying, .ref h0_courtReader, .ref h0_bookReader, .ref h0_sentenceReader, .ref h0_bench, .ref h0_whatIf, .ref h0_history, .ref h0_images, .ref h0_latest, .ref h0_latestBook, .ref h0_latestRoll, .int h0_rollLength])), (h0_law, .inr (5, [.int h0_law_jurors, .int h0_law_floors, .int h0_law_cases, .int h0_law_one, .int h0_law_dent, .int h0_law_seated, .ref h0_law_jurorName, .ref h0_law_floorName, .ref h0_law_caseName, .ref h0_law_pitch, .ref h0_law_length, .ref h0_law_hands, .ref h0_law_tune, .ref h0_law_dull, .ref h0_law_caseFloor, .ref h0_law_tuned])), (h0_tape, .inr (6, [.ref h0_tape_bytes, .int h0_tape_length, .int h0_tape_faultKind, .int h0_tape_faultAt, .long h0_tape_letters, .int h0_tape_mostBytes, .int h0_tape_behind, .int h0_tape_at, .int h0_tape_kind, .int h0_tape_number]))] (oQi D (fun (r : Int32) (u : Unit) => True) (fun (u : Unit) => [(h0, .inr (10, [.ref h0_tape, .ref h0_law, .ref h0_standing, .ref h0_saying, .ref h0_courtReader, .ref h0_bookReader, .ref h0_sentenceReader, .ref h0_bench, .ref h0_whatIf, .ref h0_history, .ref h0_images, .ref h0_latest, .ref h0_latestBook, .ref h0_latestRoll, .int h0_rollLength])), (h0_law, .inr (5, [.int h0_law_jurors, .int h0_law_floors, .int h0_law_cases, .int h0_law_one, .int h0_law_dent, .int h0_law_seated, .ref h0_law_jurorName, .ref h0_law_floorName, .ref h0_law_caseName, .ref h0_law_pitch, .ref h0_law_length, .ref h0_law_hands, .ref h0_law_tune, .ref h0_law_dull, .ref h0_law_caseFloor, .ref h0_law_tuned])), (h0_tape, .inr (6, [.ref h0_tape_bytes, .int h0_tape_length, .int h0_tape_faultKind, .int h0_tape_faultAt, .long h0_tape_letters, .int h0_tape_mostBytes, .int h0_tape_behind, .int h0_tape_at, .int h0_tape_kind, .int h0_tape_number]))])) 0 0 := by
  refine oM (cc := cX11_count) (maxL := 2) (ret := (some .int)) (by decide) rfl (Nat.le_of_ble_eq_true rfl) [(0, .ref h0), (1, .int a1)] rfl ?_
  intro p e s m below meth c A H locs ls hx hb hr hml hts hown hlocks hin hK hP hD hA hS hl
  have hown : s.vm.findClass RX11 = some m.cls := hown
  have k1 := hts (.fieldLink RX11 19 "LidCourt" "law" "LLidCourt$Law;") (by decide +kernel)
  have k2 : ∀ w ∈ wsX110, w ∈ wsX11_count := fun _ h => List.mem_cons_of_mem _ (List.mem_append_left _ (List.mem_append_left _ (List.mem_append_right _ h)))
  have k3 := hts (.fieldLink RX11 240 "LidCourt$Law" "jurors" "I") (by decide +kernel)
  have k4 : ∀ w ∈ wsX50, w ∈ wsX11_count := fun _ h => List.mem_cons_of_mem _ (List.mem_append_left _ (List.mem_append_right _ h))
  have k5 := hts (.fieldLink RX11 372 "LidCourt$Law" "floors" "I") (by decide +kernel)
  have k6 := hts (.fieldLink RX11 375 "LidCourt$Law" "cases" "I") (by decide +kernel)
  have k7 := hts (.fieldLink RX11 230 "LidCourt$Law" "one" "I") (by decide +kernel)
  have k8 := hts (.fieldLink RX11 378 "LidCourt$Law" "dent" "I") (by decide +kernel)
  have k9 := hts (.fieldLink RX11 10 "LidCourt" "tape" "LLidCourt$Reader;") (by decide +kernel)
  have k10 := hts (.fieldLink RX11 102 "LidCourt$Reader" "length" "I") (by decide +kernel)
  have k11 : ∀ w ∈ wsX60, w ∈ wsX11_count := fun _ h => List.mem_cons_of_mem _ (List.mem_append_right _ h)
  refine lv_iload_n hx hb dX11_count_0 rfl (lv_at hl 1 rfl) ?_
  by_cases c_7 : a1 = 0
  · skip
    refine oti 0 c_7 ?_
    refine lv_tableIn (off := 39) (tgt := 40) hx hb dX11_count_1 (by decide) (by decide) (by decide) (by decide) ?_
    refine lv_aload_n hx hb dX11_count_40 rfl (lv_at hl 0 rfl) ?_
    refine va_get (D := D) (ci := 10) (v := .ref h0_law) (C := RX11) (T := TX11) (N := 15) hx hb hts k2 hown hK.1 hP 0 rfl rfl 1 (by decide) k1 (fun _ h9 => h9) rfl dX11_count_41 ?_
    refine va_get (D := D) (ci := 5) (v := .int h0_law_jurors) (C := RX5) (T := TX5) (N := 16) hx hb hts k4 hown hK.1 hP 1 rfl rfl 0 (by decide) k3 (fun _ h9 => h9) rfl dX11_count_44 ?_
    exact oE_i hx hb hr rfl hlocks hP hD hS () [0, 1, 2] rfl (by decide) trivial (Nat.le_of_ble_eq_true rfl) (Nat.le_of_ble_eq_true rfl) dX11_count_47
  by_cases c_8 : a1 = 1
  · skip
    refine oti 1 c_8 ?_
    refine lv_tableIn (off := 47) (tgt := 48) hx hb dX11_count_1 (by decide) (by decide) (by decide) (by decide) ?_
    refine lv_aload_n hx hb dX11_count_48 rfl (lv_at hl 0 rfl) ?_
    refine va_get (D := D) (ci := 10) (v := .ref h0_law) (C := RX11) (T := TX11) (N := 15) hx hb hts k2 hown hK.1 hP 0 rfl rfl 1 (by decide) k1 (fun _ h9 => h9) rfl dX11_count_49 ?_
    refine va_get (D := D) (ci := 5) (v := .int h0_law_floors) (C := RX5) (T := TX5) (N := 16) hx hb hts k4 hown hK.1 hP 1 rfl rfl 1 (by decide) k5 (fun _ h9 => h9) rfl dX11_count_52 ?_
    exact oE_i hx hb hr rfl hlocks hP hD hS () [0, 1, 2] rfl (by decide) trivial (Nat.le_of_ble_eq_true rfl) (Nat.le_of_ble_eq_true rfl) dX11_count_55
  by_cases c_9 : a1 = 2
  · skip
    refine oti 2 c_9 ?_
    refine lv_tableIn (off := 55) (tgt := 56) hx hb dX11_count_1 (by decide) (by decide) (by decide) (by decide) ?_
    refine lv_aload_n hx hb dX11_count_56 rfl (lv_at hl 0 rfl) ?_
    refine va_get (D := D) (ci := 10) (v := .ref h0_law) (C := RX11) (T := TX11) (N := 15) hx hb hts k2 hown hK.1 hP 0 rfl rfl 1 (by decide) k1 (fun _ h9 => h9) rfl dX11_count_57 ?_
    refine va_get (D := D) (ci := 5) (v := .int h0_law_cases) (C := RX5) (T := TX5) (N := 16) hx hb hts k4 hown hK.1 hP 1 rfl rfl 2 (by decide) k6 (fun _ h9 => h9) rfl dX11_count_60 ?_
    exact oE_i hx hb hr rfl hlocks hP hD hS () [0, 1, 2] rfl (by decide) trivial (Nat.le_of_ble_eq_true rfl) (Nat.le_of_ble_eq_true rfl) dX11_count_63
  by_cases c_10 : a1 = 3
  · skip
    refine oti 3 c_10 ?_
    refine lv_tableIn (off := 63) (tgt := 64) hx hb dX11_count_1 (by decide) (by decide) (by decide) (by decide) ?_
    refine lv_aload_n hx hb dX11_count_64 rfl (lv_at hl 0 rfl) ?_
    refine va_get (D := D) (ci := 10) (v := .ref h0_law) (C := RX11) (T := TX11) (N := 15) hx hb hts k2 hown hK.1 hP 0 rfl rfl 1 (by decide) k1 (fun _ h9 => h9) rfl dX11_count_65 ?_
    refine va_get (D := D) (ci := 5) (v := .int h0_law_one) (C := RX5) (T := TX5) (N := 16) hx hb hts k4 hown hK.1 hP 1 rfl rfl 3 (by decide) k7 (fun _ h9 => h9) rfl dX11_count_68 ?_
    exact oE_i hx hb hr rfl hlocks hP hD hS () [0, 1, 2] rfl (by decide) trivial (Nat.le_of_ble_eq_true rfl) (Nat.le_of_ble_eq_true rfl) dX11_count_71
  by_cases c_11 : a1 = 4
  · skip
    refine oti 4 c_11 ?_
    refine lv_tableIn (off := 71) (tgt := 72) hx hb dX11_count_1 (by decide) (by decide) (by decide) (by decide) ?_
    refine lv_aload_n hx hb dX11_count_72 rfl (lv_at hl 0 rfl) ?_
    refine va_get (D := D) (ci := 10) (v := .ref h0_law) (C := RX11) (T := TX11) (N := 15) hx hb hts k2 hown hK.1 hP 0 rfl rfl 1 (by decide) k1 (fun _ h9 => h9) rfl dX11_count_73 ?_
    refine va_get (D := D) (ci := 5) (v := .int h0_law_dent) (C := RX5) (T := TX5) (N := 16) hx hb hts k4 hown hK.1 hP 1 rfl rfl 4 (by decide) k8 (fun _ h9 => h9) rfl dX11_count_76 ?_
    exact oE_i hx hb hr rfl hlocks hP hD hS () [0, 1, 2] rfl (by decide) trivial (Nat.le_of_ble_eq_true rfl) (Nat.le_of_ble_eq_true rfl) dX11_count_79
  by_cases c_12 : a1 = 5
  · skip
    refine oti 5 c_12 ?_
    refine lv_tableIn (off := 79) (tgt := 80) hx hb dX11_count_1 (by decide) (by decide) (by decide) (by decide) ?_
    refine lv_aload_n hx hb dX11_count_80 rfl (lv_at hl 0 rfl) ?_
    refine va_get (D := D) (ci := 10) (v := .ref h0_tape) (C := RX11) (T := TX11) (N := 15) hx hb hts k2 hown hK.1 hP 0 rfl rfl 0 (by decide) k9 (fun _ h9 => h9) rfl dX11_count_81 ?_
    refine va_get (D := D) (ci := 6) (v := .int h0_tape_length) (C := RX6) (T := TX6) (N := 10) hx hb hts k11 hown hK.1 hP 2 rfl rfl 1 (by decide) k10 (fun _ h9 => h9) rfl dX11_count_84 ?_
    exact oE_i hx hb hr rfl hlocks hP hD hS () [0, 1, 2] rfl (by decide) trivial (Nat.le_of_ble_eq_true rfl) (Nat.le_of_ble_eq_true rfl) dX11_count_87
  have t0 := lv_neT c_7 (show (0 : Int32).toInt = 0 by decide)
  have t1 := lv_neT c_8 (show (1 : Int32).toInt = 1 by decide)
  have t2 := lv_neT c_9 (show (2 : Int32).toInt = 2 by decide)
  have t3 := lv_neT c_10 (show (3 : Int32).toInt = 3 by decide)
  have t4 := lv_neT c_11 (show (4 : Int32).toInt = 4 by decide)
  have t5 := lv_neT c_12 (show (5 : Int32).toInt = 5 by decide)
  have t97 := ((rga a1)).1
  have t98 := ((rga a1)).2
  refine lv_tableOut (tgt := 88) hx hb dX11_count_1 (by omega) (by decide) ?_
  refine lv_iconst (v := (-1)) hx hb dX11_count_88 (by decide) ?_
  exact oE_i hx hb hr rfl hlocks hP hD hS () [0, 1, 2] rfl (by decide) trivial (Nat.le_of_ble_eq_true rfl) (Nat.le_of_ble_eq_true rfl) dX11_count_89
theorem dX12_come_0 : decode cX12_come 0 = .ok (.bipush 24, 2) := by decide +kernel
theorem dX12_come_2 : decode cX12_come 2 = .ok (.istore_n 2, 1) := by decide +kernel
theorem dX12_come_3 : decode cX12_come 3 = .ok (.iload_n 2, 1) := by decide +kernel
theorem dX12_come_4 : decode cX12_come 4 = .ok (.ifCond .lt 35, 3) := by decide +kernel
theorem dX12_come_7 : decode cX12_come 7 = .ok (.aload_n 0, 1) := by decide +kernel
theorem dX12_come_8 : decode cX12_come 8 = .ok (.getfield 7, 3) := by decide +kernel
theorem dX12_come_11 : decode cX12_come 11 = .ok (.aload_n 0, 1) := by decide +kernel
theorem dX12_come_12 : decode cX12_come 12 = .ok (.getfield 11, 3) := by decide +kernel
theorem dX12_come_15 : decode cX12_come 15 = .ok (.iload_n 1, 1) := by decide +kernel
theorem dX12_come_16 : decode cX12_come 16 = .ok (.iload_n 2, 1) := by decide +kernel
theorem dX12_come_17 : decode cX12_come 17 = .ok (.iushr, 1) := by decide +kernel
theorem dX12_come_18 : decode cX12_come 18 = .ok (.sipush 255, 3) := by decide +kernel
theorem dX12_come_21 : decode cX12_come 21 = .ok (.iand, 1) := by decide +kernel
theorem dX12_come_22 : decode cX12_come 22 = .ok (.iastore, 1) := by decide +kernel
theorem dX12_come_23 : decode cX12_come 23 = .ok (.aload_n 0, 1) := by decide +kernel
theorem dX12_come_24 : decode cX12_come 24 = .ok (.dup, 1) := by decide +kernel
theorem dX12_come_25 : decode cX12_come 25 = .ok (.getfield 11, 3) := by decide +kernel
theorem dX12_come_28 : decode cX12_come 28 = .ok (.iconst 1, 1) := by decide +kernel
theorem dX12_come_29 : decode cX12_come 29 = .ok (.iadd, 1) := by decide +kernel
theorem dX12_come_30 : decode cX12_come 30 = .ok (.putfield 11, 3) := by decide +kernel
theorem dX12_come_33 : decode cX12_come 33 = .ok (.iinc 2 (-8), 3) := by decide +kernel
theorem dX12_come_36 : decode cX12_come 36 = .ok (.goto (-33), 3) := by decide +kernel
theorem dX12_come_39 : decode cX12_come 39 = .ok (.return_, 1) := by decide +kernel
set_option maxHeartbeats 4000000 in
set_option maxRecDepth 100000 in
theorem s_X12_come (l : Launch) (D : va_G) (ca : Nat → ClassId) (sz : Nat) (h0 : Nat) (a1 : Int32) (h0_thrown : Int32) (h0_tape : Nat) (h0_taped : Int32) (h0_size : Int32) (h0_limit : Int32) (h0_to : Int32) (h0_from : Int32) (h0_kind : Int32) (h0_number : Int32) (h0_sign : Int32) (h0_fault : Int32) (h0_place : Int32) (h0_word : Int64) (h0_told : Int32) (h0_now : Nat) (h0_read : Nat) (h0_kept : Nat) (h0_snaps : Nat) (h0_aside : Nat) (h0_name : Nat) (h0_readName : Nat) (h0_keptName : Nat) (h0_isKept : Nat) (h0_onces : Nat) (h0_snapMany : Int32) (h0_lowest : Int32) (h0_highest : Int32) (h0_agreed : Int32) (h0_jurors : Int32) (h0_panelled : Int32) (h0_inSets : Nat) (h0_surely : Int32) (h0_asked : Int32) (h0_frees : Nat) (h0_struck : Int32) (h0_beating : Int32) (h0_text : Nat) (h0_texts : Int32) (h0_seed : Int32) (h0_line : Nat) (h0_written : Nat) (h0_lineMany : Int32) (h0_hasWritten : Int32) (h0_node : Nat) (h0_nodes : Int32) (h0_onesMany : Int32) (h0_within : Int32) (h0_top : Int32) (F_h0_tape : Nat → Int32) (i_h0_taped : rg 0 936 h0_taped) (i_h0_size : rg 0 940 h0_size) (i_h0_to : rg 0 940 h0_to) (i_h0_snapMany : rg 0 8 h0_snapMany) (i_h0_texts : rg 0 64 h0_texts) (i_h0_lineMany : rg 0 40 h0_lineMany) (i_h0_hasWritten : rg 0 1 h0_hasWritten) (s_h0_tape_0 : sg 0 940 0 255 F_h0_tape) : oMet l yX12_come wsX12_come ({ frames := 0, cells := 0, slots := 0, locals := 0 } : Room) [.ref h0, .int a1] D ca sz [(h0, .inr (11, [.int h0_thrown, .ref h0_tape, .int h0_taped, .int h0_size, .int h0_limit, .int h0_to, .int h0_from, .int h0_kind, .int h0_number, .int h0_sign, .int h0_fault, .int h0_place, .long h0_word, .int h0_told, .ref h0_now, .ref h0_read, .ref h0_kept, .ref h0_snaps, .ref h0_aside, .ref h0_name, .ref h0_readName, .ref h0_keptName, .ref h0_isKept, .ref h0_onces, .int h0_snapMany, .int h0_lowest, .int h0_highest, .int h0_agreed, .int h0_jurors, .int h0_panelled, .ref h0_inSets, .int h0_surely, .int h0_asked, .ref h0_frees, .int h0_struck, .int h0_beating, .ref h0_text, .int h0_texts, .int h0_seed, .ref h0_line, .ref h0_written, .int h0_lineMany, .int h0_hasWritten, .ref h0_node, .int h0_nodes, .int h0_onesMany, .int h0_within, .int h0_top])), (aI ca h0_tape 940 F_h0_tape)] (oQv D (fun (u : Int32 × (Nat → Int32)) => (rg 4 940 u.1) ∧ (sg 0 940 0 255 u.2) ∧ (rl 4 h0_taped u.1) ∧ (rl (-4) u.1 h0_taped)) (fun (u : Int32 × (Nat → Int32)) => [(h0, .inr (11, [.int h0_thrown, .ref h0_tape, .int u.1, .int h0_size, .int h0_limit, .int h0_to, .int h0_from, .int h0_kind, .int h0_number, .int h0_sign, .int h0_fault, .int h0_place, .long h0_word, .int h0_told, .ref h0_now, .ref h0_read, .ref h0_kept, .ref h0_snaps, .ref h0_aside, .ref h0_name, .ref h0_readName, .ref h0_keptName, .ref h0_isKept, .ref h0_onces, .int h0_snapMany, .int h0_lowest, .int h0_highest, .int h0_agreed, .int h0_jurors, .int h0_panelled, .ref h0_inSets, .int h0_surely, .int h0_asked, .ref h0_frees, .int h0_struck, .int h0_beating, .ref h0_text, .int h0_texts, .int h0_seed, .ref h0_line, .ref h0_written, .int h0_lineMany, .int h0_hasWritten, .ref h0_node, .int h0_nodes, .int h0_onesMany, .int h0_within, .int h0_top])), (aI ca h0_tape 940 u.2)])) 0 0 := by
  refine oM (cc := cX12_come) (maxL := 3) (ret := none) (by decide) rfl (Nat.le_of_ble_eq_true rfl) [(0, .ref h0), (1, .int a1)] rfl ?_
  intro p e s m below meth c A H locs ls hx hb hr hml hts hown hlocks hin hK hP hD hA hS hl
  have hown : s.vm.findClass RX12 = some m.cls := hown
  have k1 := hts (.fieldLink RX12 7 "LidCourtModel" "tape" "[I") (by decide +kernel)
  have k2 : ∀ w ∈ wsX120, w ∈ wsX12_come := fun _ h => List.mem_cons_of_mem _ (List.mem_append_right _ h)
  have k3 := hts (.fieldLink RX12 11 "LidCourtModel" "taped" "I") (by decide +kernel)
  refine lv_bipush (v := 24) hx hb dX12_come_0 (by decide) ?_
  refine lv_istore_n (lv' := [(2, .int 24), (0, .ref h0), (1, .int a1)]) hx hb dX12_come_2 rfl hl (by decide) rfl (fun ls hl => ?_)
  refine lv_iload_n hx hb dX12_come_3 rfl (lv_at hl 0 rfl) ?_
  refine lv_if_lt (tgt := 39) hx hb dX12_come_4 (by decide) (fun c => absurd c (by decide)) (fun _ => ?_)
  refine lv_aload_n hx hb dX12_come_7 rfl (lv_at hl 1 rfl) ?_
  refine va_get (D := D) (ci := 11) (v := .ref h0_tape) (C := RX12) (T := TX12) (N := 48) hx hb hts k2 hown hK.1 hP 0 rfl rfl 1 (by decide) k1 (fun _ h9 => h9) rfl dX12_come_8 ?_
  refine lv_aload_n hx hb dX12_come_11 rfl (lv_at hl 1 rfl) ?_
  refine va_get (D := D) (ci := 11) (v := .int h0_taped) (C := RX12) (T := TX12) (N := 48) hx hb hts k2 hown hK.1 hP 0 rfl rfl 2 (by decide) k3 (fun _ h9 => h9) rfl dX12_come_12 ?_
  refine lv_iload_n hx hb dX12_come_15 rfl (lv_at hl 2 rfl) ?_
  refine lv_iload_n hx hb dX12_come_16 rfl (lv_at hl 0 rfl) ?_
  refine lv_iushr hx hb dX12_come_17 rfl ?_
  refine lv_topi (fun x_42 ex_42 => ?_)
  have h_43 : rg 0 255 x_42 := by rw [ex_42]; exact ushr24 a1
  refine lv_sipush (v := 255) hx hb dX12_come_18 (by decide) ?_
  refine lv_iand hx hb dX12_come_21 ?_
  refine lv_topi (fun x_44 ex_44 => ?_)
  have h_45 : rg 0 255 x_44 := by rw [ex_44]; exact rg_and h_43 (by decide) (by decide) (by decide)
  have o_46 : rl 0 x_44 x_42 := by rw [ex_44]; exact rl_and h_43 (by decide)
  refine va_iast hx hb hK.1 hP hD hS 1 0 rfl rfl (rg_in i_h0_taped (by decide) (by decide)) dX12_come_22 (fun H locs hP hD hS => ?_)
  obtain ⟨g_47, eg_47⟩ : ∃ y : Nat → Int32, y = upd F_h0_tape (h0_taped : Int32).toNatClampNeg (x_44 : Int32) := ⟨_, rfl⟩
  rw [← eg_47] at hP hD
  have s_48 : sg 0 940 0 255 g_47 := sg_val s_h0_tape_0 eg_47 h_45
  have q_49 : eqs 937 940 g_47 F_h0_tape := eqs_out (eqs_rf (a := 0) (b := 940) F_h0_tape) eg_47 i_h0_taped (by decide) (by decide) (by decide) (by decide)
  have hP : va_P D vwCl [(h0, .inr (11, [.int h0_thrown, .ref h0_tape, .int h0_taped, .int h0_size, .int h0_limit, .int h0_to, .int h0_from, .int h0_kind, .int h0_number, .int h0_sign, .int h0_fault, .int h0_place, .long h0_word, .int h0_told, .ref h0_now, .ref h0_read, .ref h0_kept, .ref h0_snaps, .ref h0_aside, .ref h0_name, .ref h0_readName, .ref h0_keptName, .ref h0_isKept, .ref h0_onces, .int h0_snapMany, .int h0_lowest, .int h0_highest, .int h0_agreed, .int h0_jurors, .int h0_panelled, .ref h0_inSets, .int h0_surely, .int h0_asked, .ref h0_frees, .int h0_struck, .int h0_beating, .ref h0_text, .int h0_texts, .int h0_seed, .ref h0_line, .ref h0_written, .int h0_lineMany, .int h0_hasWritten, .ref h0_node, .int h0_nodes, .int h0_onesMany, .int h0_within, .int h0_top])), (aI ca h0_tape 940 g_47)] H := hP
  have hD : va_D A [(h0, .inr (11, [.int h0_thrown, .ref h0_tape, .int h0_taped, .int h0_size, .int h0_limit, .int h0_to, .int h0_from, .int h0_kind, .int h0_number, .int h0_sign, .int h0_fault, .int h0_place, .long h0_word, .int h0_told, .ref h0_now, .ref h0_read, .ref h0_kept, .ref h0_snaps, .ref h0_aside, .ref h0_name, .ref h0_readName, .ref h0_keptName, .ref h0_isKept, .ref h0_onces, .int h0_snapMany, .int h0_lowest, .int h0_highest, .int h0_agreed, .int h0_jurors, .int h0_panelled, .ref h0_inSets, .int h0_surely, .int h0_asked, .ref h0_frees, .int h0_struck, .int h0_beating, .ref h0_text, .int h0_texts, .int h0_seed, .ref h0_line, .ref h0_written, .int h0_lineMany, .int h0_hasWritten, .ref h0_node, .int h0_nodes, .int h0_onesMany, .int h0_within, .int h0_top])), (aI ca h0_tape 940 g_47)] := hD
  refine lv_aload_n hx hb dX12_come_23 rfl (lv_at hl 1 rfl) ?_
  refine lv_dup hx hb dX12_come_24 rfl ?_
  refine va_get (D := D) (ci := 11) (v := .int h0_taped) (C := RX12) (T := TX12) (N := 48) hx hb hts k2 hown hK.1 hP 0 rfl rfl 2 (by decide) k3 (fun _ h9 => h9) rfl dX12_come_25 ?_
  refine lv_iconst (v := 1) hx hb dX12_come_28 (by decide) ?_
  refine lv_iadd hx hb dX12_come_29 ?_
  refine lv_topi (fun x_50 ex_50 => ?_)
  have h_51 : rg 1 937 x_50 := by rw [ex_50]; exact rg_add i_h0_taped (⟨by decide, by decide⟩ : rg 1 1 (1 : Int32)) (by decide) (by decide) (by decide) (by decide)
  have l_52 : lq x_50.toInt (h0_taped.toInt + 1) := lqm (by rw [ex_50]; have q := tadd i_h0_taped (⟨by decide, by decide⟩ : rg 1 1 (1 : Int32)) (by decide) (by decide); have r1 := lqe (lqm (by decide) : lq (1 : Int32).toInt 1); omega)
  refine va_put (D := D) (ci := 11) (v := .int x_50) (ty := .int) (C := RX12) (T := TX12) (N := 48) hx hb hts k2 tyX12 tyX12_ok nmX12 hown hK.1 hP hD hS 0 rfl rfl 2 (by decide) k3 (fun _ h9 => h9) rfl (by decide +kernel) rfl rfl (Nat.le_of_ble_eq_true rfl) dX12_come_30 (fun H locs hP hD hS => ?_)
  have hP : va_P D vwCl [(h0, .inr (11, [.int h0_thrown, .ref h0_tape, .int x_50, .int h0_size, .int h0_limit, .int h0_to, .int h0_from, .int h0_kind, .int h0_number, .int h0_sign, .int h0_fault, .int h0_place, .long h0_word, .int h0_told, .ref h0_now, .ref h0_read, .ref h0_kept, .ref h0_snaps, .ref h0_aside, .ref h0_name, .ref h0_readName, .ref h0_keptName, .ref h0_isKept, .ref h0_onces, .int h0_snapMany, .int h0_lowest, .int h0_highest, .int h0_agreed, .int h0_jurors, .int h0_panelled, .ref h0_inSets, .int h0_surely, .int h0_asked, .ref h0_frees, .int h0_struck, .int h0_beating, .ref h0_text, .int h0_texts, .int h0_seed, .ref h0_line, .ref h0_written, .int h0_lineMany, .int h0_hasWritten, .ref h0_node, .int h0_nodes, .int h0_onesMany, .int h0_within, .int h0_top])), (aI ca h0_tape 940 g_47)] H := hP
  have hD : va_D A [(h0, .inr (11, [.int h0_thrown, .ref h0_tape, .int x_50, .int h0_size, .int h0_limit, .int h0_to, .int h0_from, .int h0_kind, .int h0_number, .int h0_sign, .int h0_fault, .int h0_place, .long h0_word, .int h0_told, .ref h0_now, .ref h0_read, .ref h0_kept, .ref h0_snaps, .ref h0_aside, .ref h0_name, .ref h0_readName, .ref h0_keptName, .ref h0_isKept, .ref h0_onces, .int h0_snapMany, .int h0_lowest, .int h0_highest, .int h0_agreed, .int h0_jurors, .int h0_panelled, .ref h0_inSets, .int h0_surely, .int h0_asked, .ref h0_frees, .int h0_struck, .int h0_beating, .ref h0_text, .int h0_texts, .int h0_seed, .ref h0_line, .ref h0_written, .int h0_lineMany, .int h0_hasWritten, .ref h0_node, .int h0_nodes, .int h0_onesMany, .int h0_within, .int h0_top])), (aI ca h0_tape 940 g_47)] := hD
  refine lv_iinc (v := 16) (lv' := [(2, .int 16), (0, .ref h0), (1, .int a1)]) hx hb dX12_come_33 hl (k := 0) rfl (by decide) (by decide) rfl (fun ls hl => ?_)
  refine lv_goto (tgt := 3) hx hb dX12_come_36 (by decide) ?_
  refine lv_iload_n hx hb dX12_come_3 rfl (lv_at hl 0 rfl) ?_
  refine lv_if_lt (tgt := 39) hx hb dX12_come_4 (by decide) (fun c => absurd c (by decide)) (fun _ => ?_)
  refine lv_aload_n hx hb dX12_come_7 rfl (lv_at hl 1 rfl) ?_
  refine va_get (D := D) (ci := 11) (v := .ref h0_tape) (C := RX12) (T := TX12) (N := 48) hx hb hts k2 hown hK.1 hP 0 rfl rfl 1 (by decide) k1 (fun _ h9 => h9) rfl dX12_come_8 ?_
  refine lv_aload_n hx hb dX12_come_11 rfl (lv_at hl 1 rfl) ?_
  refine va_get (D := D) (ci := 11) (v := .int x_50) (C := RX12) (T := TX12) (N := 48) hx hb hts k2 hown hK.1 hP 0 rfl rfl 2 (by decide) k3 (fun _ h9 => h9) rfl dX12_come_12 ?_
  refine lv_iload_n hx hb dX12_come_15 rfl (lv_at hl 2 rfl) ?_
  refine lv_iload_n hx hb dX12_come_16 rfl (lv_at hl 0 rfl) ?_
  refine lv_iushr hx hb dX12_come_17 rfl ?_
  refine lv_topi (fun x_53 ex_53 => ?_)
  have h_54 : rg 0 65535 x_53 := by rw [ex_53]; exact ushr16 a1
  refine lv_sipush (v := 255) hx hb dX12_come_18 (by decide) ?_
  refine lv_iand hx hb dX12_come_21 ?_
  refine lv_topi (fun x_55 ex_55 => ?_)
  have h_56 : rg 0 255 x_55 := by rw [ex_55]; exact rg_and' (⟨by decide, by decide⟩ : rg 255 255 (255 : Int32)) (by decide) (by decide) (by decide)
  have o_57 : rl 0 x_55 x_53 := by rw [ex_55]; exact rl_and h_54 (by decide)
  refine va_iast hx hb hK.1 hP hD hS 1 0 rfl rfl (rg_in h_51 (by decide) (by decide)) dX12_come_22 (fun H locs hP hD hS => ?_)
  obtain ⟨g_58, eg_58⟩ : ∃ y : Nat → Int32, y = upd g_47 (x_50 : Int32).toNatClampNeg (x_55 : Int32) := ⟨_, rfl⟩
  rw [← eg_58] at hP hD
  have s_59 : sg 0 940 0 255 g_58 := sg_val s_48 eg_58 h_56
  have q_60 : eqs 938 940 g_58 F_h0_tape := eqs_out q_49 eg_58 h_51 (by decide) (by decide) (by decide) (by decide)
  have hP : va_P D vwCl [(h0, .inr (11, [.int h0_thrown, .ref h0_tape, .int x_50, .int h0_size, .int h0_limit, .int h0_to, .int h0_from, .int h0_kind, .int h0_number, .int h0_sign, .int h0_fault, .int h0_place, .long h0_word, .int h0_told, .ref h0_now, .ref h0_read, .ref h0_kept, .ref h0_snaps, .ref h0_aside, .ref h0_name, .ref h0_readName, .ref h0_keptName, .ref h0_isKept, .ref h0_onces, .int h0_snapMany, .int h0_lowest, .int h0_highest, .int h0_agreed, .int h0_jurors, .int h0_panelled, .ref h0_inSets, .int h0_surely, .int h0_asked, .ref h0_frees, .int h0_struck, .int h0_beating, .ref h0_text, .int h0_texts, .int h0_seed, .ref h0_line, .ref h0_written, .int h0_lineMany, .int h0_hasWritten, .ref h0_node, .int h0_nodes, .int h0_onesMany, .int h0_within, .int h0_top])), (aI ca h0_tape 940 g_58)] H := hP
  have hD : va_D A [(h0, .inr (11, [.int h0_thrown, .ref h0_tape, .int x_50, .int h0_size, .int h0_limit, .int h0_to, .int h0_from, .int h0_kind, .int h0_number, .int h0_sign, .int h0_fault, .int h0_place, .long h0_word, .int h0_told, .ref h0_now, .ref h0_read, .ref h0_kept, .ref h0_snaps, .ref h0_aside, .ref h0_name, .ref h0_readName, .ref h0_keptName, .ref h0_isKept, .ref h0_onces, .int h0_snapMany, .int h0_lowest, .int h0_highest, .int h0_agreed, .int h0_jurors, .int h0_panelled, .ref h0_inSets, .int h0_surely, .int h0_asked, .ref h0_frees, .int h0_struck, .int h0_beating, .ref h0_text, .int h0_texts, .int h0_seed, .ref h0_line, .ref h0_written, .int h0_lineMany, .int h0_hasWritten, .ref h0_node, .int h0_nodes, .int h0_onesMany, .int h0_within, .int h0_top])), (aI ca h0_tape 940 g_58)] := hD
  refine lv_aload_n hx hb dX12_come_23 rfl (lv_at hl 1 rfl) ?_
  refine lv_dup hx hb dX12_come_24 rfl ?_
  refine va_get (D := D) (ci := 11) (v := .int x_50) (C := RX12) (T := TX12) (N := 48) hx hb hts k2 hown hK.1 hP 0 rfl rfl 2 (by decide) k3 (fun _ h9 => h9) rfl dX12_come_25 ?_
  refine lv_iconst (v := 1) hx hb dX12_come_28 (by decide) ?_
  refine lv_iadd hx hb dX12_come_29 ?_
  refine lv_topi (fun x_61 ex_61 => ?_)
  have h_62 : rg 2 938 x_61 := by rw [ex_61]; exact rg_add h_51 (⟨by decide, by decide⟩ : rg 1 1 (1 : Int32)) (by decide) (by decide) (by decide) (by decide)
  have l_63 : lq x_61.toInt (h0_taped.toInt + 2) := lqm (by rw [ex_61]; have q := tadd h_51 (⟨by decide, by decide⟩ : rg 1 1 (1 : Int32)) (by decide) (by decide); have r0 := lqe l_52; have r1 := lqe (lqm (by decide) : lq (1 : Int32).toInt 1); omega)
  refine va_put (D := D) (ci := 11) (v := .int x_61) (ty := .int) (C := RX12) (T := TX12) (N := 48) hx hb hts k2 tyX12 tyX12_ok nmX12 hown hK.1 hP hD hS 0 rfl rfl 2 (by decide) k3 (fun _ h9 => h9) rfl (by decide +kernel) rfl rfl (Nat.le_of_ble_eq_true rfl) dX12_come_30 (fun H locs hP hD hS => ?_)
  have hP : va_P D vwCl [(h0, .inr (11, [.int h0_thrown, .ref h0_tape, .int x_61, .int h0_size, .int h0_limit, .int h0_to, .int h0_from, .int h0_kind, .int h0_number, .int h0_sign, .int h0_fault, .int h0_place, .long h0_word, .int h0_told, .ref h0_now, .ref h0_read, .ref h0_kept, .ref h0_snaps, .ref h0_aside, .ref h0_name, .ref h0_readName, .ref h0_keptName, .ref h0_isKept, .ref h0_onces, .int h0_snapMany, .int h0_lowest, .int h0_highest, .int h0_agreed, .int h0_jurors, .int h0_panelled, .ref h0_inSets, .int h0_surely, .int h0_asked, .ref h0_frees, .int h0_struck, .int h0_beating, .ref h0_text, .int h0_texts, .int h0_seed, .ref h0_line, .ref h0_written, .int h0_lineMany, .int h0_hasWritten, .ref h0_node, .int h0_nodes, .int h0_onesMany, .int h0_within, .int h0_top])), (aI ca h0_tape 940 g_58)] H := hP
  have hD : va_D A [(h0, .inr (11, [.int h0_thrown, .ref h0_tape, .int x_61, .int h0_size, .int h0_limit, .int h0_to, .int h0_from, .int h0_kind, .int h0_number, .int h0_sign, .int h0_fault, .int h0_place, .long h0_word, .int h0_told, .ref h0_now, .ref h0_read, .ref h0_kept, .ref h0_snaps, .ref h0_aside, .ref h0_name, .ref h0_readName, .ref h0_keptName, .ref h0_isKept, .ref h0_onces, .int h0_snapMany, .int h0_lowest, .int h0_highest, .int h0_agreed, .int h0_jurors, .int h0_panelled, .ref h0_inSets, .int h0_surely, .int h0_asked, .ref h0_frees, .int h0_struck, .int h0_beating, .ref h0_text, .int h0_texts, .int h0_seed, .ref h0_line, .ref h0_written, .int h0_lineMany, .int h0_hasWritten, .ref h0_node, .int h0_nodes, .int h0_onesMany, .int h0_within, .int h0_top])), (aI ca h0_tape 940 g_58)] := hD
  refine lv_iinc (v := 8) (lv' := [(2, .int 8), (0, .ref h0), (1, .int a1)]) hx hb dX12_come_33 hl (k := 0) rfl (by decide) (by decide) rfl (fun ls hl => ?_)
  refine lv_goto (tgt := 3) hx hb dX12_come_36 (by decide) ?_
  refine lv_iload_n hx hb dX12_come_3 rfl (lv_at hl 0 rfl) ?_
  refine lv_if_lt (tgt := 39) hx hb dX12_come_4 (by decide) (fun c => absurd c (by decide)) (fun _ => ?_)
  refine lv_aload_n hx hb dX12_come_7 rfl (lv_at hl 1 rfl) ?_
  refine va_get (D := D) (ci := 11) (v := .ref h0_tape) (C := RX12) (T := TX12) (N := 48) hx hb hts k2 hown hK.1 hP 0 rfl rfl 1 (by decide) k1 (fun _ h9 => h9) rfl dX12_come_8 ?_
  refine lv_aload_n hx hb dX12_come_11 rfl (lv_at hl 1 rfl) ?_
  refine va_get (D := D) (ci := 11) (v := .int x_61) (C := RX12) (T := TX12) (N := 48) hx hb hts k2 hown hK.1 hP 0 rfl rfl 2 (by decide) k3 (fun _ h9 => h9) rfl dX12_come_12 ?_
  refine lv_iload_n hx hb dX12_come_15 rfl (lv_at hl 2 rfl) ?_
  refine lv_iload_n hx hb dX12_come_16 rfl (lv_at hl 0 rfl) ?_
  refine lv_iushr hx hb dX12_come_17 rfl ?_
  refine lv_topi (fun x_64 ex_64 => ?_)
  have h_65 : rg 0 16777215 x_64 := by rw [ex_64]; exact ushr8 a1
  refine lv_sipush (v := 255) hx hb dX12_come_18 (by decide) ?_
  refine lv_iand hx hb dX12_come_21 ?_
  refine lv_topi (fun x_66 ex_66 => ?_)
  have h_67 : rg 0 255 x_66 := by rw [ex_66]; exact rg_and' (⟨by decide, by decide⟩ : rg 255 255 (255 : Int32)) (by decide) (by decide) (by decide)
  have o_68 : rl 0 x_66 x_64 := by rw [ex_66]; exact rl_and h_65 (by decide)
  refine va_iast hx hb hK.1 hP hD hS 1 0 rfl rfl (rg_in h_62 (by decide) (by decide)) dX12_come_22 (fun H locs hP hD hS => ?_)
  obtain ⟨g_69, eg_69⟩ : ∃ y : Nat → Int32, y = upd g_58 (x_61 : Int32).toNatClampNeg (x_66 : Int32) := ⟨_, rfl⟩
  rw [← eg_69] at hP hD
  have s_70 : sg 0 940 0 255 g_69 := sg_val s_59 eg_69 h_67
  have q_71 : eqs 939 940 g_69 F_h0_tape := eqs_out q_60 eg_69 h_62 (by decide) (by decide) (by decide) (by decide)
  have hP : va_P D vwCl [(h0, .inr (11, [.int h0_thrown, .ref h0_tape, .int x_61, .int h0_size, .int h0_limit, .int h0_to, .int h0_from, .int h0_kind, .int h0_number, .int h0_sign, .int h0_fault, .int h0_place, .long h0_word, .int h0_told, .ref h0_now, .ref h0_read, .ref h0_kept, .ref h0_snaps, .ref h0_aside, .ref h0_name, .ref h0_readName, .ref h0_keptName, .ref h0_isKept, .ref h0_onces, .int h0_snapMany, .int h0_lowest, .int h0_highest, .int h0_agreed, .int h0_jurors, .int h0_panelled, .ref h0_inSets, .int h0_surely, .int h0_asked, .ref h0_frees, .int h0_struck, .int h0_beating, .ref h0_text, .int h0_texts, .int h0_seed, .ref h0_line, .ref h0_written, .int h0_lineMany, .int h0_hasWritten, .ref h0_node, .int h0_nodes, .int h0_onesMany, .int h0_within, .int h0_top])), (aI ca h0_tape 940 g_69)] H := hP
  have hD : va_D A [(h0, .inr (11, [.int h0_thrown, .ref h0_tape, .int x_61, .int h0_size, .int h0_limit, .int h0_to, .int h0_from, .int h0_kind, .int h0_number, .int h0_sign, .int h0_fault, .int h0_place, .long h0_word, .int h0_told, .ref h0_now, .ref h0_read, .ref h0_kept, .ref h0_snaps, .ref h0_aside, .ref h0_name, .ref h0_readName, .ref h0_keptName, .ref h0_isKept, .ref h0_onces, .int h0_snapMany, .int h0_lowest, .int h0_highest, .int h0_agreed, .int h0_jurors, .int h0_panelled, .ref h0_inSets, .int h0_surely, .int h0_asked, .ref h0_frees, .int h0_struck, .int h0_beating, .ref h0_text, .int h0_texts, .int h0_seed, .ref h0_line, .ref h0_written, .int h0_lineMany, .int h0_hasWritten, .ref h0_node, .int h0_nodes, .int h0_onesMany, .int h0_within, .int h0_top])), (aI ca h0_tape 940 g_69)] := hD
  refine lv_aload_n hx hb dX12_come_23 rfl (lv_at hl 1 rfl) ?_
  refine lv_dup hx hb dX12_come_24 rfl ?_
  refine va_get (D := D) (ci := 11) (v := .int x_61) (C := RX12) (T := TX12) (N := 48) hx hb hts k2 hown hK.1 hP 0 rfl rfl 2 (by decide) k3 (fun _ h9 => h9) rfl dX12_come_25 ?_
  refine lv_iconst (v := 1) hx hb dX12_come_28 (by decide) ?_
  refine lv_iadd hx hb dX12_come_29 ?_
  refine lv_topi (fun x_72 ex_72 => ?_)
  have h_73 : rg 3 939 x_72 := by rw [ex_72]; exact rg_add h_62 (⟨by decide, by decide⟩ : rg 1 1 (1 : Int32)) (by decide) (by decide) (by decide) (by decide)
  have l_74 : lq x_72.toInt (h0_taped.toInt + 3) := lqm (by rw [ex_72]; have q := tadd h_62 (⟨by decide, by decide⟩ : rg 1 1 (1 : Int32)) (by decide) (by decide); have r0 := lqe l_63; have r1 := lqe (lqm (by decide) : lq (1 : Int32).toInt 1); omega)
  refine va_put (D := D) (ci := 11) (v := .int x_72) (ty := .int) (C := RX12) (T := TX12) (N := 48) hx hb hts k2 tyX12 tyX12_ok nmX12 hown hK.1 hP hD hS 0 rfl rfl 2 (by decide) k3 (fun _ h9 => h9) rfl (by decide +kernel) rfl rfl (Nat.le_of_ble_eq_true rfl) dX12_come_30 (fun H locs hP hD hS => ?_)
  have hP : va_P D vwCl [(h0, .inr (11, [.int h0_thrown, .ref h0_tape, .int x_72, .int h0_size, .int h0_limit, .int h0_to, .int h0_from, .int h0_kind, .int h0_number, .int h0_sign, .int h0_fault, .int h0_place, .long h0_word, .int h0_told, .ref h0_now, .ref h0_read, .ref h0_kept, .ref h0_snaps, .ref h0_aside, .ref h0_name, .ref h0_readName, .ref h0_keptName, .ref h0_isKept, .ref h0_onces, .int h0_snapMany, .int h0_lowest, .int h0_highest, .int h0_agreed, .int h0_jurors, .int h0_panelled, .ref h0_inSets, .int h0_surely, .int h0_asked, .ref h0_frees, .int h0_struck, .int h0_beating, .ref h0_text, .int h0_texts, .int h0_seed, .ref h0_line, .ref h0_written, .int h0_lineMany, .int h0_hasWritten, .ref h0_node, .int h0_nodes, .int h0_onesMany, .int h0_within, .int h0_top])), (aI ca h0_tape 940 g_69)] H := hP
  have hD : va_D A [(h0, .inr (11, [.int h0_thrown, .ref h0_tape, .int x_72, .int h0_size, .int h0_limit, .int h0_to, .int h0_from, .int h0_kind, .int h0_number, .int h0_sign, .int h0_fault, .int h0_place, .long h0_word, .int h0_told, .ref h0_now, .ref h0_read, .ref h0_kept, .ref h0_snaps, .ref h0_aside, .ref h0_name, .ref h0_readName, .ref h0_keptName, .ref h0_isKept, .ref h0_onces, .int h0_snapMany, .int h0_lowest, .int h0_highest, .int h0_agreed, .int h0_jurors, .int h0_panelled, .ref h0_inSets, .int h0_surely, .int h0_asked, .ref h0_frees, .int h0_struck, .int h0_beating, .ref h0_text, .int h0_texts, .int h0_seed, .ref h0_line, .ref h0_written, .int h0_lineMany, .int h0_hasWritten, .ref h0_node, .int h0_nodes, .int h0_onesMany, .int h0_within, .int h0_top])), (aI ca h0_tape 940 g_69)] := hD
  refine lv_iinc (v := 0) (lv' := [(2, .int 0), (0, .ref h0), (1, .int a1)]) hx hb dX12_come_33 hl (k := 0) rfl (by decide) (by decide) rfl (fun ls hl => ?_)
  refine lv_goto (tgt := 3) hx hb dX12_come_36 (by decide) ?_
  refine lv_iload_n hx hb dX12_come_3 rfl (lv_at hl 0 rfl) ?_
  refine lv_if_lt (tgt := 39) hx hb dX12_come_4 (by decide) (fun c => absurd c (by decide)) (fun _ => ?_)
  refine lv_aload_n hx hb dX12_come_7 rfl (lv_at hl 1 rfl) ?_
  refine va_get (D := D) (ci := 11) (v := .ref h0_tape) (C := RX12) (T := TX12) (N := 48) hx hb hts k2 hown hK.1 hP 0 rfl rfl 1 (by decide) k1 (fun _ h9 => h9) rfl dX12_come_8 ?_
  refine lv_aload_n hx hb dX12_come_11 rfl (lv_at hl 1 rfl) ?_
  refine va_get (D := D) (ci := 11) (v := .int x_72) (C := RX12) (T := TX12) (N := 48) hx hb hts k2 hown hK.1 hP 0 rfl rfl 2 (by decide) k3 (fun _ h9 => h9) rfl dX12_come_12 ?_
  refine lv_iload_n hx hb dX12_come_15 rfl (lv_at hl 2 rfl) ?_
  refine lv_iload_n hx hb dX12_come_16 rfl (lv_at hl 0 rfl) ?_
  refine lv_iushr hx hb dX12_come_17 rfl ?_
  refine lv_topi (fun x_75 ex_75 => ?_)
  refine lv_sipush (v := 255) hx hb dX12_come_18 (by decide) ?_
  refine lv_iand hx hb dX12_come_21 ?_
  refine lv_topi (fun x_76 ex_76 => ?_)
  have h_77 : rg 0 255 x_76 := by rw [ex_76]; exact rg_and' (⟨by decide, by decide⟩ : rg 255 255 (255 : Int32)) (by decide) (by decide) (by decide)
  refine va_iast hx hb hK.1 hP hD hS 1 0 rfl rfl (rg_in h_73 (by decide) (by decide)) dX12_come_22 (fun H locs hP hD hS => ?_)
  obtain ⟨g_78, eg_78⟩ : ∃ y : Nat → Int32, y = upd g_69 (x_72 : Int32).toNatClampNeg (x_76 : Int32) := ⟨_, rfl⟩
  rw [← eg_78] at hP hD
  have s_79 : sg 0 940 0 255 g_78 := sg_val s_70 eg_78 h_77
  have hP : va_P D vwCl [(h0, .inr (11, [.int h0_thrown, .ref h0_tape, .int x_72, .int h0_size, .int h0_limit, .int h0_to, .int h0_from, .int h0_kind, .int h0_number, .int h0_sign, .int h0_fault, .int h0_place, .long h0_word, .int h0_told, .ref h0_now, .ref h0_read, .ref h0_kept, .ref h0_snaps, .ref h0_aside, .ref h0_name, .ref h0_readName, .ref h0_keptName, .ref h0_isKept, .ref h0_onces, .int h0_snapMany, .int h0_lowest, .int h0_highest, .int h0_agreed, .int h0_jurors, .int h0_panelled, .ref h0_inSets, .int h0_surely, .int h0_asked, .ref h0_frees, .int h0_struck, .int h0_beating, .ref h0_text, .int h0_texts, .int h0_seed, .ref h0_line, .ref h0_written, .int h0_lineMany, .int h0_hasWritten, .ref h0_node, .int h0_nodes, .int h0_onesMany, .int h0_within, .int h0_top])), (aI ca h0_tape 940 g_78)] H := hP
  have hD : va_D A [(h0, .inr (11, [.int h0_thrown, .ref h0_tape, .int x_72, .int h0_size, .int h0_limit, .int h0_to, .int h0_from, .int h0_kind, .int h0_number, .int h0_sign, .int h0_fault, .int h0_place, .long h0_word, .int h0_told, .ref h0_now, .ref h0_read, .ref h0_kept, .ref h0_snaps, .ref h0_aside, .ref h0_name, .ref h0_readName, .ref h0_keptName, .ref h0_isKept, .ref h0_onces, .int h0_snapMany, .int h0_lowest, .int h0_highest, .int h0_agreed, .int h0_jurors, .int h0_panelled, .ref h0_inSets, .int h0_surely, .int h0_asked, .ref h0_frees, .int h0_struck, .int h0_beating, .ref h0_text, .int h0_texts, .int h0_seed, .ref h0_line, .ref h0_written, .int h0_lineMany, .int h0_hasWritten, .ref h0_node, .int h0_nodes, .int h0_onesMany, .int h0_within, .int h0_top])), (aI ca h0_tape 940 g_78)] := hD
  refine lv_aload_n hx hb dX12_come_23 rfl (lv_at hl 1 rfl) ?_
  refine lv_dup hx hb dX12_come_24 rfl ?_
  refine va_get (D := D) (ci := 11) (v := .int x_72) (C := RX12) (T := TX12) (N := 48) hx hb hts k2 hown hK.1 hP 0 rfl rfl 2 (by decide) k3 (fun _ h9 => h9) rfl dX12_come_25 ?_
  refine lv_iconst (v := 1) hx hb dX12_come_28 (by decide) ?_
  refine lv_iadd hx hb dX12_come_29 ?_
  refine lv_topi (fun x_80 ex_80 => ?_)
  have h_81 : rg 4 940 x_80 := by rw [ex_80]; exact rg_add h_73 (⟨by decide, by decide⟩ : rg 1 1 (1 : Int32)) (by decide) (by decide) (by decide) (by decide)
  have l_82 : lq x_80.toInt (h0_taped.toInt + 4) := lqm (by rw [ex_80]; have q := tadd h_73 (⟨by decide, by decide⟩ : rg 1 1 (1 : Int32)) (by decide) (by decide); have r0 := lqe l_74; have r1 := lqe (lqm (by decide) : lq (1 : Int32).toInt 1); omega)
  refine va_put (D := D) (ci := 11) (v := .int x_80) (ty := .int) (C := RX12) (T := TX12) (N := 48) hx hb hts k2 tyX12 tyX12_ok nmX12 hown hK.1 hP hD hS 0 rfl rfl 2 (by decide) k3 (fun _ h9 => h9) rfl (by decide +kernel) rfl rfl (Nat.le_of_ble_eq_true rfl) dX12_come_30 (fun H locs hP hD hS => ?_)
  have hP : va_P D vwCl [(h0, .inr (11, [.int h0_thrown, .ref h0_tape, .int x_80, .int h0_size, .int h0_limit, .int h0_to, .int h0_from, .int h0_kind, .int h0_number, .int h0_sign, .int h0_fault, .int h0_place, .long h0_word, .int h0_told, .ref h0_now, .ref h0_read, .ref h0_kept, .ref h0_snaps, .ref h0_aside, .ref h0_name, .ref h0_readName, .ref h0_keptName, .ref h0_isKept, .ref h0_onces, .int h0_snapMany, .int h0_lowest, .int h0_highest, .int h0_agreed, .int h0_jurors, .int h0_panelled, .ref h0_inSets, .int h0_surely, .int h0_asked, .ref h0_frees, .int h0_struck, .int h0_beating, .ref h0_text, .int h0_texts, .int h0_seed, .ref h0_line, .ref h0_written, .int h0_lineMany, .int h0_hasWritten, .ref h0_node, .int h0_nodes, .int h0_onesMany, .int h0_within, .int h0_top])), (aI ca h0_tape 940 g_78)] H := hP
  have hD : va_D A [(h0, .inr (11, [.int h0_thrown, .ref h0_tape, .int x_80, .int h0_size, .int h0_limit, .int h0_to, .int h0_from, .int h0_kind, .int h0_number, .int h0_sign, .int h0_fault, .int h0_place, .long h0_word, .int h0_told, .ref h0_now, .ref h0_read, .ref h0_kept, .ref h0_snaps, .ref h0_aside, .ref h0_name, .ref h0_readName, .ref h0_keptName, .ref h0_isKept, .ref h0_onces, .int h0_snapMany, .int h0_lowest, .int h0_highest, .int h0_agreed, .int h0_jurors, .int h0_panelled, .ref h0_inSets, .int h0_surely, .int h0_asked, .ref h0_frees, .int h0_struck, .int h0_beating, .ref h0_text, .int h0_texts, .int h0_seed, .ref h0_line, .ref h0_written, .int h0_lineMany, .int h0_hasWritten, .ref h0_node, .int h0_nodes, .int h0_onesMany, .int h0_within, .int h0_top])), (aI ca h0_tape 940 g_78)] := hD
  refine lv_iinc (v := (-8)) (lv' := [(2, .int (-8)), (0, .ref h0), (1, .int a1)]) hx hb dX12_come_33 hl (k := 0) rfl (by decide) (by decide) rfl (fun ls hl => ?_)
  refine lv_goto (tgt := 3) hx hb dX12_come_36 (by decide) ?_
  refine lv_iload_n hx hb dX12_come_3 rfl (lv_at hl 0 rfl) ?_
  refine lv_if_lt (tgt := 39) hx hb dX12_come_4 (by decide) (fun _ => ?_) (fun c => absurd (by decide) c)
  exact oE_v hx hb hr hlocks hP hD hS (x_80, g_78) [0, 1] rfl (by decide) ⟨h_81, s_79, (show rl 4 h0_taped x_80 from rlm (by have q0 := lqe l_82; omega)), (show rl (-4) x_80 h0_taped from rlm (by have q0 := lqe l_82; omega))⟩ (Nat.le_of_ble_eq_true rfl) (Nat.le_of_ble_eq_true rfl) dX12_come_39
theorem dX12_feed_0 : decode cX12_feed 0 = .ok (.aload_n 0, 1) := by decide +kernel
theorem dX12_feed_1 : decode cX12_feed 1 = .ok (.iconst 0, 1) := by decide +kernel
theorem dX12_feed_2 : decode cX12_feed 2 = .ok (.putfield 1, 3) := by decide +kernel
theorem dX12_feed_5 : decode cX12_feed 5 = .ok (.aload_n 0, 1) := by decide +kernel
theorem dX12_feed_6 : decode cX12_feed 6 = .ok (.getfield 11, 3) := by decide +kernel
theorem dX12_feed_9 : decode cX12_feed 9 = .ok (.bipush 20, 2) := by decide +kernel
theorem dX12_feed_11 : decode cX12_feed 11 = .ok (.iadd, 1) := by decide +kernel
theorem dX12_feed_12 : decode cX12_feed 12 = .ok (.sipush 940, 3) := by decide +kernel
theorem dX12_feed_15 : decode cX12_feed 15 = .ok (.if_icmp .le 5, 3) := by decide +kernel
theorem dX12_feed_18 : decode cX12_feed 18 = .ok (.iconst (-1), 1) := by decide +kernel
theorem dX12_feed_19 : decode cX12_feed 19 = .ok (.ireturn, 1) := by decide +kernel
theorem dX12_feed_20 : decode cX12_feed 20 = .ok (.aload_n 0, 1) := by decide +kernel
theorem dX12_feed_21 : decode cX12_feed 21 = .ok (.iload_n 1, 1) := by decide +kernel
theorem dX12_feed_22 : decode cX12_feed 22 = .ok (.invokevirtual 14, 3) := by decide +kernel
theorem dX12_feed_25 : decode cX12_feed 25 = .ok (.aload_n 0, 1) := by decide +kernel
theorem dX12_feed_26 : decode cX12_feed 26 = .ok (.iload_n 2, 1) := by decide +kernel
theorem dX12_feed_27 : decode cX12_feed 27 = .ok (.invokevirtual 14, 3) := by decide +kernel
theorem dX12_feed_30 : decode cX12_feed 30 = .ok (.aload_n 0, 1) := by decide +kernel
theorem dX12_feed_31 : decode cX12_feed 31 = .ok (.iload_n 3, 1) := by decide +kernel
theorem dX12_feed_32 : decode cX12_feed 32 = .ok (.invokevirtual 14, 3) := by decide +kernel
theorem dX12_feed_35 : decode cX12_feed 35 = .ok (.aload_n 0, 1) := by decide +kernel
theorem dX12_feed_36 : decode cX12_feed 36 = .ok (.iload 4, 2) := by decide +kernel
theorem dX12_feed_38 : decode cX12_feed 38 = .ok (.invokevirtual 14, 3) := by decide +kernel
theorem dX12_feed_41 : decode cX12_feed 41 = .ok (.aload_n 0, 1) := by decide +kernel
theorem dX12_feed_42 : decode cX12_feed 42 = .ok (.iload 5, 2) := by decide +kernel
theorem dX12_feed_44 : decode cX12_feed 44 = .ok (.invokevirtual 14, 3) := by decide +kernel
theorem dX12_feed_47 : decode cX12_feed 47 = .ok (.aload_n 0, 1) := by decide +kernel
theorem dX12_feed_48 : decode cX12_feed 48 = .ok (.getfield 11, 3) := by decide +kernel
theorem dX12_feed_51 : decode cX12_feed 51 = .ok (.ireturn, 1) := by decide +kernel
set_option maxRecDepth 20000 in
theorem ggX12_feed_X12_come : GoodIn wsX12_feed wsX12_come := goodIn_r _ [7, 8, 2, 9, 10, 11, 12, 13, 14, 15, 16, 17, 18, 19, 20, 21, 22, 23, 24, 25, 26, 27, 28, 29, 30, 31, 32, 33, 34, 35, 36, 37, 38, 39, 40, 41, 42, 43, 44, 45, 46, 47, 48, 49, 50, 51, 52, 53, 54, 55, 56] rfl (by decide +kernel)
set_option maxRecDepth 20000 in
theorem gX12_feed_X12_come : GoodIn wsX12_feed (wsV RX12 14 RX12 yX12_come wsX12_come) := goodIn_app (goodIn_of _ (by decide +kernel)) ggX12_feed_X12_come
set_option maxHeartbeats 4000000 in
set_option maxRecDepth 100000 in
theorem s_X12_feed (l : Launch) (D : va_G) (ca : Nat → ClassId) (sz : Nat) (h0 : Nat) (a1 : Int32) (a2 : Int32) (a3 : Int32) (a4 : Int32) (a5 : Int32) (h0_thrown : Int32) (h0_tape : Nat) (h0_taped : Int32) (h0_size : Int32) (h0_limit : Int32) (h0_to : Int32) (h0_from : Int32) (h0_kind : Int32) (h0_number : Int32) (h0_sign : Int32) (h0_fault : Int32) (h0_place : Int32) (h0_word : Int64) (h0_told : Int32) (h0_now : Nat) (h0_read : Nat) (h0_kept : Nat) (h0_snaps : Nat) (h0_aside : Nat) (h0_name : Nat) (h0_readName : Nat) (h0_keptName : Nat) (h0_isKept : Nat) (h0_onces : Nat) (h0_snapMany : Int32) (h0_lowest : Int32) (h0_highest : Int32) (h0_agreed : Int32) (h0_jurors : Int32) (h0_panelled : Int32) (h0_inSets : Nat) (h0_surely : Int32) (h0_asked : Int32) (h0_frees : Nat) (h0_struck : Int32) (h0_beating : Int32) (h0_text : Nat) (h0_texts : Int32) (h0_seed : Int32) (h0_line : Nat) (h0_written : Nat) (h0_lineMany : Int32) (h0_hasWritten : Int32) (h0_node : Nat) (h0_nodes : Int32) (h0_onesMany : Int32) (h0_within : Int32) (h0_top : Int32) (F_h0_tape : Nat → Int32) (i_h0_taped : rg 0 940 h0_taped) (i_h0_size : rg 0 940 h0_size) (i_h0_to : rg 0 940 h0_to) (i_h0_snapMany : rg 0 8 h0_snapMany) (i_h0_texts : rg 0 64 h0_texts) (i_h0_lineMany : rg 0 40 h0_lineMany) (i_h0_hasWritten : rg 0 1 h0_hasWritten) (s_h0_tape_0 : sg 0 940 0 255 F_h0_tape) : oMet l yX12_feed wsX12_feed ({ frames := 1, cells := 0, slots := 0, locals := 22 } : Room) [.ref h0, .int a1, .int a2, .int a3, .int a4, .int a5] D ca sz [(h0, .inr (11, [.int h0_thrown, .ref h0_tape, .int h0_taped, .int h0_size, .int h0_limit, .int h0_to, .int h0_from, .int h0_kind, .int h0_number, .int h0_sign, .int h0_fault, .int h0_place, .long h0_word, .int h0_told, .ref h0_now, .ref h0_read, .ref h0_kept, .ref h0_snaps, .ref h0_aside, .ref h0_name, .ref h0_readName, .ref h0_keptName, .ref h0_isKept, .ref h0_onces, .int h0_snapMany, .int h0_lowest, .int h0_highest, .int h0_agreed, .int h0_jurors, .int h0_panelled, .ref h0_inSets, .int h0_surely, .int h0_asked, .ref h0_frees, .int h0_struck, .int h0_beating, .ref h0_text, .int h0_texts, .int h0_seed, .ref h0_line, .ref h0_written, .int h0_lineMany, .int h0_hasWritten, .ref h0_node, .int h0_nodes, .int h0_onesMany, .int h0_within, .int h0_top])), (aI ca h0_tape 940 F_h0_tape)] (oQi D (fun (r : Int32) (u : Int32 × (Nat → Int32)) => (rg (-1) 940 r) ∧ (rg 20 940 u.1) ∧ (sg 0 940 0 255 u.2)) (fun (u : Int32 × (Nat → Int32)) => [(h0, .inr (11, [.int 0, .ref h0_tape, .int u.1, .int h0_size, .int h0_limit, .int h0_to, .int h0_from, .int h0_kind, .int h0_number, .int h0_sign, .int h0_fault, .int h0_place, .long h0_word, .int h0_told, .ref h0_now, .ref h0_read, .ref h0_kept, .ref h0_snaps, .ref h0_aside, .ref h0_name, .ref h0_readName, .ref h0_keptName, .ref h0_isKept, .ref h0_onces, .int h0_snapMany, .int h0_lowest, .int h0_highest, .int h0_agreed, .int h0_jurors, .int h0_panelled, .ref h0_inSets, .int h0_surely, .int h0_asked, .ref h0_frees, .int h0_struck, .int h0_beating, .ref h0_text, .int h0_texts, .int h0_seed, .ref h0_line, .ref h0_written, .int h0_lineMany, .int h0_hasWritten, .ref h0_node, .int h0_nodes, .int h0_onesMany, .int h0_within, .int h0_top])), (aI ca h0_tape 940 u.2)])) 0 0 := by
  refine oM (cc := cX12_feed) (maxL := 6) (ret := (some .int)) (by decide) rfl (Nat.le_of_ble_eq_true rfl) [(0, .ref h0), (1, .int a1), (2, .int a2), (3, .int a3), (4, .int a4), (5, .int a5)] rfl ?_
  intro p e s m below meth c A H locs ls hx hb hr hml hts hown hlocks hin hK hP hD hA hS hl
  have hown : s.vm.findClass RX12 = some m.cls := hown
  have k1 := hts (.fieldLink RX12 1 "LidCourtModel" "thrown" "I") (by decide +kernel)
  have k2 : ∀ w ∈ wsX120, w ∈ wsX12_feed := fun _ h => List.mem_cons_of_mem _ (List.mem_append_right _ h)
  have k3 := hts (.fieldLink RX12 11 "LidCourtModel" "taped" "I") (by decide +kernel)
  refine lv_aload_n hx hb dX12_feed_0 rfl (lv_at hl 0 rfl) ?_
  refine lv_iconst (v := 0) hx hb dX12_feed_1 (by decide) ?_
  refine va_put (D := D) (ci := 11) (v := .int 0) (ty := .int) (C := RX12) (T := TX12) (N := 48) hx hb hts k2 tyX12 tyX12_ok nmX12 hown hK.1 hP hD hS 0 rfl rfl 0 (by decide) k1 (fun _ h9 => h9) rfl (by decide +kernel) rfl rfl (Nat.le_of_ble_eq_true rfl) dX12_feed_2 (fun H locs hP hD hS => ?_)
  have hP : va_P D vwCl [(h0, .inr (11, [.int 0, .ref h0_tape, .int h0_taped, .int h0_size, .int h0_limit, .int h0_to, .int h0_from, .int h0_kind, .int h0_number, .int h0_sign, .int h0_fault, .int h0_place, .long h0_word, .int h0_told, .ref h0_now, .ref h0_read, .ref h0_kept, .ref h0_snaps, .ref h0_aside, .ref h0_name, .ref h0_readName, .ref h0_keptName, .ref h0_isKept, .ref h0_onces, .int h0_snapMany, .int h0_lowest, .int h0_highest, .int h0_agreed, .int h0_jurors, .int h0_panelled, .ref h0_inSets, .int h0_surely, .int h0_asked, .ref h0_frees, .int h0_struck, .int h0_beating, .ref h0_text, .int h0_texts, .int h0_seed, .ref h0_line, .ref h0_written, .int h0_lineMany, .int h0_hasWritten, .ref h0_node, .int h0_nodes, .int h0_onesMany, .int h0_within, .int h0_top])), (aI ca h0_tape 940 F_h0_tape)] H := hP
  have hD : va_D A [(h0, .inr (11, [.int 0, .ref h0_tape, .int h0_taped, .int h0_size, .int h0_limit, .int h0_to, .int h0_from, .int h0_kind, .int h0_number, .int h0_sign, .int h0_fault, .int h0_place, .long h0_word, .int h0_told, .ref h0_now, .ref h0_read, .ref h0_kept, .ref h0_snaps, .ref h0_aside, .ref h0_name, .ref h0_readName, .ref h0_keptName, .ref h0_isKept, .ref h0_onces, .int h0_snapMany, .int h0_lowest, .int h0_highest, .int h0_agreed, .int h0_jurors, .int h0_panelled, .ref h0_inSets, .int h0_surely, .int h0_asked, .ref h0_frees, .int h0_struck, .int h0_beating, .ref h0_text, .int h0_texts, .int h0_seed, .ref h0_line, .ref h0_written, .int h0_lineMany, .int h0_hasWritten, .ref h0_node, .int h0_nodes, .int h0_onesMany, .int h0_within, .int h0_top])), (aI ca h0_tape 940 F_h0_tape)] := hD
  refine lv_aload_n hx hb dX12_feed_5 rfl (lv_at hl 0 rfl) ?_
  refine va_get (D := D) (ci := 11) (v := .int h0_taped) (C := RX12) (T := TX12) (N := 48) hx hb hts k2 hown hK.1 hP 0 rfl rfl 2 (by decide) k3 (fun _ h9 => h9) rfl dX12_feed_6 ?_
  refine lv_bipush (v := 20) hx hb dX12_feed_9 (by decide) ?_
  refine lv_iadd hx hb dX12_feed_11 ?_
  refine lv_topi (fun x_59 ex_59 => ?_)
  have h_60 : rg 20 960 x_59 := by rw [ex_59]; exact rg_add i_h0_taped (⟨by decide, by decide⟩ : rg 20 20 (20 : Int32)) (by decide) (by decide) (by decide) (by decide)
  have l_61 : lq x_59.toInt (h0_taped.toInt + 20) := lqm (by rw [ex_59]; have q := tadd i_h0_taped (⟨by decide, by decide⟩ : rg 20 20 (20 : Int32)) (by decide) (by decide); have r1 := lqe (lqm (by decide) : lq (20 : Int32).toInt 20); omega)
  refine lv_sipush (v := 940) hx hb dX12_feed_12 (by decide) ?_
  refine lv_icmp_le (tgt := 20) hx hb dX12_feed_15 (by decide) (fun c_62 => ?_) (fun c_62 => ?_)
  · skip
    have o_63 : rl 0 x_59 940 := rl_le c_62
    have h_64 : rg 20 940 x_59 := rl_x o_63 h_60 (⟨by decide, by decide⟩ : rg 940 940 (940 : Int32)) (by decide) (by decide)
    have h_65 : rg 0 920 h0_taped := ⟨by have q := lqe l_61; have q1 := (h_64).1; have q2 := (i_h0_taped).1; omega, by have q := lqe l_61; have q1 := (h_64).2; have q2 := (i_h0_taped).2; omega⟩
    refine lv_aload_n hx hb dX12_feed_20 rfl (lv_at hl 0 rfl) ?_
    refine lv_iload_n hx hb dX12_feed_21 rfl (lv_at hl 1 rfl) ?_
    refine oC_v (Wc := [(h0, .inr (11, [.int 0, .ref h0_tape, .int h0_taped, .int h0_size, .int h0_limit, .int h0_to, .int h0_from, .int h0_kind, .int h0_number, .int h0_sign, .int h0_fault, .int h0_place, .long h0_word, .int h0_told, .ref h0_now, .ref h0_read, .ref h0_kept, .ref h0_snaps, .ref h0_aside, .ref h0_name, .ref h0_readName, .ref h0_keptName, .ref h0_isKept, .ref h0_onces, .int h0_snapMany, .int h0_lowest, .int h0_highest, .int h0_agreed, .int h0_jurors, .int h0_panelled, .ref h0_inSets, .int h0_surely, .int h0_asked, .ref h0_frees, .int h0_struck, .int h0_beating, .ref h0_text, .int h0_texts, .int h0_seed, .ref h0_line, .ref h0_written, .int h0_lineMany, .int h0_hasWritten, .ref h0_node, .int h0_nodes, .int h0_onesMany, .int h0_within, .int h0_top])), (aI ca h0_tape 940 F_h0_tape)]) (Wr := []) (va_runV (As := [.int a1]) (rest := []) ⟨hx, hb, hml, hown, hts⟩ (s_X12_come l D ca H.size h0 a1 0 h0_tape h0_taped h0_size h0_limit h0_to h0_from h0_kind h0_number h0_sign h0_fault h0_place h0_word h0_told h0_now h0_read h0_kept h0_snaps h0_aside h0_name h0_readName h0_keptName h0_isKept h0_onces h0_snapMany h0_lowest h0_highest h0_agreed h0_jurors h0_panelled h0_inSets h0_surely h0_asked h0_frees h0_struck h0_beating h0_text h0_texts h0_seed h0_line h0_written h0_lineMany h0_hasWritten h0_node h0_nodes h0_onesMany h0_within h0_top F_h0_tape (rgw (lo := 0) (hi := 936) h_65 (by decide) (by decide)) i_h0_size i_h0_to i_h0_snapMany i_h0_texts i_h0_lineMany i_h0_hasWritten s_h0_tape_0) (cwV 1 hts gX12_feed_X12_come rfl rfl rfl (by decide +kernel) ⟨Nat.le_of_ble_eq_true rfl, Nat.le_of_ble_eq_true rfl⟩) (oPV (C := RX12) hK hP hD [0, 1] rfl (by decide) 0 rfl (ci := 11) rfl rfl) rfl rfl hl.1 rfl (lv_room (Nat.le_of_ble_eq_true rfl)) dX12_feed_22 ⟨Nat.le_of_ble_eq_true rfl, Nat.le_of_ble_eq_true rfl⟩) hP hD hS hA [0, 1] [] rfl rfl (by decide) (by decide) (fun u H locs w_67 hP hD hS => ?_)
    obtain ⟨u_68, u_69⟩ := u
    have hP : va_P D vwCl [(h0, .inr (11, [.int 0, .ref h0_tape, .int u_68, .int h0_size, .int h0_limit, .int h0_to, .int h0_from, .int h0_kind, .int h0_number, .int h0_sign, .int h0_fault, .int h0_place, .long h0_word, .int h0_told, .ref h0_now, .ref h0_read, .ref h0_kept, .ref h0_snaps, .ref h0_aside, .ref h0_name, .ref h0_readName, .ref h0_keptName, .ref h0_isKept, .ref h0_onces, .int h0_snapMany, .int h0_lowest, .int h0_highest, .int h0_agreed, .int h0_jurors, .int h0_panelled, .ref h0_inSets, .int h0_surely, .int h0_asked, .ref h0_frees, .int h0_struck, .int h0_beating, .ref h0_text, .int h0_texts, .int h0_seed, .ref h0_line, .ref h0_written, .int h0_lineMany, .int h0_hasWritten, .ref h0_node, .int h0_nodes, .int h0_onesMany, .int h0_within, .int h0_top])), (aI ca h0_tape 940 u_69)] H := hP
    have hD : va_D A [(h0, .inr (11, [.int 0, .ref h0_tape, .int u_68, .int h0_size, .int h0_limit, .int h0_to, .int h0_from, .int h0_kind, .int h0_number, .int h0_sign, .int h0_fault, .int h0_place, .long h0_word, .int h0_told, .ref h0_now, .ref h0_read, .ref h0_kept, .ref h0_snaps, .ref h0_aside, .ref h0_name, .ref h0_readName, .ref h0_keptName, .ref h0_isKept, .ref h0_onces, .int h0_snapMany, .int h0_lowest, .int h0_highest, .int h0_agreed, .int h0_jurors, .int h0_panelled, .ref h0_inSets, .int h0_surely, .int h0_asked, .ref h0_frees, .int h0_struck, .int h0_beating, .ref h0_text, .int h0_texts, .int h0_seed, .ref h0_line, .ref h0_written, .int h0_lineMany, .int h0_hasWritten, .ref h0_node, .int h0_nodes, .int h0_onesMany, .int h0_within, .int h0_top])), (aI ca h0_tape 940 u_69)] := hD
    try dsimp only at w_67
    obtain ⟨h_70, h_71, h_72, h_73⟩ := w_67
    have h_74 : rg 4 924 u_68 := rl_x h_73 h_70 h_65 (by decide) (by decide)
    refine lv_aload_n hx hb dX12_feed_25 rfl (lv_at hl 0 rfl) ?_
    refine lv_iload_n hx hb dX12_feed_26 rfl (lv_at hl 2 rfl) ?_
    refine oC_v (Wc := [(h0, .inr (11, [.int 0, .ref h0_tape, .int u_68, .int h0_size, .int h0_limit, .int h0_to, .int h0_from, .int h0_kind, .int h0_number, .int h0_sign, .int h0_fault, .int h0_place, .long h0_word, .int h0_told, .ref h0_now, .ref h0_read, .ref h0_kept, .ref h0_snaps, .ref h0_aside, .ref h0_name, .ref h0_readName, .ref h0_keptName, .ref h0_isKept, .ref h0_onces, .int h0_snapMany, .int h0_lowest, .int h0_highest, .int h0_agreed, .int h0_jurors, .int h0_panelled, .ref h0_inSets, .int h0_surely, .int h0_asked, .ref h0_frees, .int h0_struck, .int h0_beating, .ref h0_text, .int h0_texts, .int h0_seed, .ref h0_line, .ref h0_written, .int h0_lineMany, .int h0_hasWritten, .ref h0_node, .int h0_nodes, .int h0_onesMany, .int h0_within, .int h0_top])), (aI ca h0_tape 940 u_69)]) (Wr := []) (va_runV (As := [.int a2]) (rest := []) ⟨hx, hb, hml, hown, hts⟩ (s_X12_come l D ca H.size h0 a2 0 h0_tape u_68 h0_size h0_limit h0_to h0_from h0_kind h0_number h0_sign h0_fault h0_place h0_word h0_told h0_now h0_read h0_kept h0_snaps h0_aside h0_name h0_readName h0_keptName h0_isKept h0_onces h0_snapMany h0_lowest h0_highest h0_agreed h0_jurors h0_panelled h0_inSets h0_surely h0_asked h0_frees h0_struck h0_beating h0_text h0_texts h0_seed h0_line h0_written h0_lineMany h0_hasWritten h0_node h0_nodes h0_onesMany h0_within h0_top u_69 (rgw (lo := 0) (hi := 936) h_74 (by decide) (by decide)) i_h0_size i_h0_to i_h0_snapMany i_h0_texts i_h0_lineMany i_h0_hasWritten h_71) (cwV 1 hts gX12_feed_X12_come rfl rfl rfl (by decide +kernel) ⟨Nat.le_of_ble_eq_true rfl, Nat.le_of_ble_eq_true rfl⟩) (oPV (C := RX12) hK hP hD [0, 1] rfl (by decide) 0 rfl (ci := 11) rfl rfl) rfl rfl hl.1 rfl (lv_room (Nat.le_of_ble_eq_true rfl)) dX12_feed_27 ⟨Nat.le_of_ble_eq_true rfl, Nat.le_of_ble_eq_true rfl⟩) hP hD hS hA [0, 1] [] rfl rfl (by decide) (by decide) (fun u H locs w_76 hP hD hS => ?_)
    obtain ⟨u_77, u_78⟩ := u
    have hP : va_P D vwCl [(h0, .inr (11, [.int 0, .ref h0_tape, .int u_77, .int h0_size, .int h0_limit, .int h0_to, .int h0_from, .int h0_kind, .int h0_number, .int h0_sign, .int h0_fault, .int h0_place, .long h0_word, .int h0_told, .ref h0_now, .ref h0_read, .ref h0_kept, .ref h0_snaps, .ref h0_aside, .ref h0_name, .ref h0_readName, .ref h0_keptName, .ref h0_isKept, .ref h0_onces, .int h0_snapMany, .int h0_lowest, .int h0_highest, .int h0_agreed, .int h0_jurors, .int h0_panelled, .ref h0_inSets, .int h0_surely, .int h0_asked, .ref h0_frees, .int h0_struck, .int h0_beating, .ref h0_text, .int h0_texts, .int h0_seed, .ref h0_line, .ref h0_written, .int h0_lineMany, .int h0_hasWritten, .ref h0_node, .int h0_nodes, .int h0_onesMany, .int h0_within, .int h0_top])), (aI ca h0_tape 940 u_78)] H := hP
    have hD : va_D A [(h0, .inr (11, [.int 0, .ref h0_tape, .int u_77, .int h0_size, .int h0_limit, .int h0_to, .int h0_from, .int h0_kind, .int h0_number, .int h0_sign, .int h0_fault, .int h0_place, .long h0_word, .int h0_told, .ref h0_now, .ref h0_read, .ref h0_kept, .ref h0_snaps, .ref h0_aside, .ref h0_name, .ref h0_readName, .ref h0_keptName, .ref h0_isKept, .ref h0_onces, .int h0_snapMany, .int h0_lowest, .int h0_highest, .int h0_agreed, .int h0_jurors, .int h0_panelled, .ref h0_inSets, .int h0_surely, .int h0_asked, .ref h0_frees, .int h0_struck, .int h0_beating, .ref h0_text, .int h0_texts, .int h0_seed, .ref h0_line, .ref h0_written, .int h0_lineMany, .int h0_hasWritten, .ref h0_node, .int h0_nodes, .int h0_onesMany, .int h0_within, .int h0_top])), (aI ca h0_tape 940 u_78)] := hD
    try dsimp only at w_76
    obtain ⟨h_79, h_80, h_81, h_82⟩ := w_76
    have h_83 : rg 8 940 u_77 := rl_y h_81 h_74 h_79 (by decide) (by decide)
    have h_84 : rg 8 928 u_77 := rl_x h_82 h_83 h_74 (by decide) (by decide)
    refine lv_aload_n hx hb dX12_feed_30 rfl (lv_at hl 0 rfl) ?_
    refine lv_iload_n hx hb dX12_feed_31 rfl (lv_at hl 3 rfl) ?_
    refine oC_v (Wc := [(h0, .inr (11, [.int 0, .ref h0_tape, .int u_77, .int h0_size, .int h0_limit, .int h0_to, .int h0_from, .int h0_kind, .int h0_number, .int h0_sign, .int h0_fault, .int h0_place, .long h0_word, .int h0_told, .ref h0_now, .ref h0_read, .ref h0_kept, .ref h0_snaps, .ref h0_aside, .ref h0_name, .ref h0_readName, .ref h0_keptName, .ref h0_isKept, .ref h0_onces, .int h0_snapMany, .int h0_lowest, .int h0_highest, .int h0_agreed, .int h0_jurors, .int h0_panelled, .ref h0_inSets, .int h0_surely, .int h0_asked, .ref h0_frees, .int h0_struck, .int h0_beating, .ref h0_text, .int h0_texts, .int h0_seed, .ref h0_line, .ref h0_written, .int h0_lineMany, .int h0_hasWritten, .ref h0_node, .int h0_nodes, .int h0_onesMany, .int h0_within, .int h0_top])), (aI ca h0_tape 940 u_78)]) (Wr := []) (va_runV (As := [.int a3]) (rest := []) ⟨hx, hb, hml, hown, hts⟩ (s_X12_come l D ca H.size h0 a3 0 h0_tape u_77 h0_size h0_limit h0_to h0_from h0_kind h0_number h0_sign h0_fault h0_place h0_word h0_told h0_now h0_read h0_kept h0_snaps h0_aside h0_name h0_readName h0_keptName h0_isKept h0_onces h0_snapMany h0_lowest h0_highest h0_agreed h0_jurors h0_panelled h0_inSets h0_surely h0_asked h0_frees h0_struck h0_beating h0_text h0_texts h0_seed h0_line h0_written h0_lineMany h0_hasWritten h0_node h0_nodes h0_onesMany h0_within h0_top u_78 (rgw (lo := 0) (hi := 936) h_84 (by decide) (by decide)) i_h0_size i_h0_to i_h0_snapMany i_h0_texts i_h0_lineMany i_h0_hasWritten h_80) (cwV 1 hts gX12_feed_X12_come rfl rfl rfl (by decide +kernel) ⟨Nat.le_of_ble_eq_true rfl, Nat.le_of_ble_eq_true rfl⟩) (oPV (C := RX12) hK hP hD [0, 1] rfl (by decide) 0 rfl (ci := 11) rfl rfl) rfl rfl hl.1 rfl (lv_room (Nat.le_of_ble_eq_true rfl)) dX12_feed_32 ⟨Nat.le_of_ble_eq_true rfl, Nat.le_of_ble_eq_true rfl⟩) hP hD hS hA [0, 1] [] rfl rfl (by decide) (by decide) (fun u H locs w_86 hP hD hS => ?_)
    obtain ⟨u_87, u_88⟩ := u
    have hP : va_P D vwCl [(h0, .inr (11, [.int 0, .ref h0_tape, .int u_87, .int h0_size, .int h0_limit, .int h0_to, .int h0_from, .int h0_kind, .int h0_number, .int h0_sign, .int h0_fault, .int h0_place, .long h0_word, .int h0_told, .ref h0_now, .ref h0_read, .ref h0_kept, .ref h0_snaps, .ref h0_aside, .ref h0_name, .ref h0_readName, .ref h0_keptName, .ref h0_isKept, .ref h0_onces, .int h0_snapMany, .int h0_lowest, .int h0_highest, .int h0_agreed, .int h0_jurors, .int h0_panelled, .ref h0_inSets, .int h0_surely, .int h0_asked, .ref h0_frees, .int h0_struck, .int h0_beating, .ref h0_text, .int h0_texts, .int h0_seed, .ref h0_line, .ref h0_written, .int h0_lineMany, .int h0_hasWritten, .ref h0_node, .int h0_nodes, .int h0_onesMany, .int h0_within, .int h0_top])), (aI ca h0_tape 940 u_88)] H := hP
    have hD : va_D A [(h0, .inr (11, [.int 0, .ref h0_tape, .int u_87, .int h0_size, .int h0_limit, .int h0_to, .int h0_from, .int h0_kind, .int h0_number, .int h0_sign, .int h0_fault, .int h0_place, .long h0_word, .int h0_told, .ref h0_now, .ref h0_read, .ref h0_kept, .ref h0_snaps, .ref h0_aside, .ref h0_name, .ref h0_readName, .ref h0_keptName, .ref h0_isKept, .ref h0_onces, .int h0_snapMany, .int h0_lowest, .int h0_highest, .int h0_agreed, .int h0_jurors, .int h0_panelled, .ref h0_inSets, .int h0_surely, .int h0_asked, .ref h0_frees, .int h0_struck, .int h0_beating, .ref h0_text, .int h0_texts, .int h0_seed, .ref h0_line, .ref h0_written, .int h0_lineMany, .int h0_hasWritten, .ref h0_node, .int h0_nodes, .int h0_onesMany, .int h0_within, .int h0_top])), (aI ca h0_tape 940 u_88)] := hD
    try dsimp only at w_86
    obtain ⟨h_89, h_90, h_91, h_92⟩ := w_86
    have h_93 : rg 12 940 u_87 := rl_y h_91 h_84 h_89 (by decide) (by decide)
    have h_94 : rg 12 932 u_87 := rl_x h_92 h_93 h_84 (by decide) (by decide)
    refine lv_aload_n hx hb dX12_feed_35 rfl (lv_at hl 0 rfl) ?_
    refine lv_iload hx hb dX12_feed_36 (lv_at hl 4 rfl) ?_
    refine oC_v (Wc := [(h0, .inr (11, [.int 0, .ref h0_tape, .int u_87, .int h0_size, .int h0_limit, .int h0_to, .int h0_from, .int h0_kind, .int h0_number, .int h0_sign, .int h0_fault, .int h0_place, .long h0_word, .int h0_told, .ref h0_now, .ref h0_read, .ref h0_kept, .ref h0_snaps, .ref h0_aside, .ref h0_name, .ref h0_readName, .ref h0_keptName, .ref h0_isKept, .ref h0_onces, .int h0_snapMany, .int h0_lowest, .int h0_highest, .int h0_agreed, .int h0_jurors, .int h0_panelled, .ref h0_inSets, .int h0_surely, .int h0_asked, .ref h0_frees, .int h0_struck, .int h0_beating, .ref h0_text, .int h0_texts, .int h0_seed, .ref h0_line, .ref h0_written, .int h0_lineMany, .int h0_hasWritten, .ref h0_node, .int h0_nodes, .int h0_onesMany, .int h0_within, .int h0_top])), (aI ca h0_tape 940 u_88)]) (Wr := []) (va_runV (As := [.int a4]) (rest := []) ⟨hx, hb, hml, hown, hts⟩ (s_X12_come l D ca H.size h0 a4 0 h0_tape u_87 h0_size h0_limit h0_to h0_from h0_kind h0_number h0_sign h0_fault h0_place h0_word h0_told h0_now h0_read h0_kept h0_snaps h0_aside h0_name h0_readName h0_keptName h0_isKept h0_onces h0_snapMany h0_lowest h0_highest h0_agreed h0_jurors h0_panelled h0_inSets h0_surely h0_asked h0_frees h0_struck h0_beating h0_text h0_texts h0_seed h0_line h0_written h0_lineMany h0_hasWritten h0_node h0_nodes h0_onesMany h0_within h0_top u_88 (rgw (lo := 0) (hi := 936) h_94 (by decide) (by decide)) i_h0_size i_h0_to i_h0_snapMany i_h0_texts i_h0_lineMany i_h0_hasWritten h_90) (cwV 1 hts gX12_feed_X12_come rfl rfl rfl (by decide +kernel) ⟨Nat.le_of_ble_eq_true rfl, Nat.le_of_ble_eq_true rfl⟩) (oPV (C := RX12) hK hP hD [0, 1] rfl (by decide) 0 rfl (ci := 11) rfl rfl) rfl rfl hl.1 rfl (lv_room (Nat.le_of_ble_eq_true rfl)) dX12_feed_38 ⟨Nat.le_of_ble_eq_true rfl, Nat.le_of_ble_eq_true rfl⟩) hP hD hS hA [0, 1] [] rfl rfl (by decide) (by decide) (fun u H locs w_96 hP hD hS => ?_)
    obtain ⟨u_97, u_98⟩ := u
    have hP : va_P D vwCl [(h0, .inr (11, [.int 0, .ref h0_tape, .int u_97, .int h0_size, .int h0_limit, .int h0_to, .int h0_from, .int h0_kind, .int h0_number, .int h0_sign, .int h0_fault, .int h0_place, .long h0_word, .int h0_told, .ref h0_now, .ref h0_read, .ref h0_kept, .ref h0_snaps, .ref h0_aside, .ref h0_name, .ref h0_readName, .ref h0_keptName, .ref h0_isKept, .ref h0_onces, .int h0_snapMany, .int h0_lowest, .int h0_highest, .int h0_agreed, .int h0_jurors, .int h0_panelled, .ref h0_inSets, .int h0_surely, .int h0_asked, .ref h0_frees, .int h0_struck, .int h0_beating, .ref h0_text, .int h0_texts, .int h0_seed, .ref h0_line, .ref h0_written, .int h0_lineMany, .int h0_hasWritten, .ref h0_node, .int h0_nodes, .int h0_onesMany, .int h0_within, .int h0_top])), (aI ca h0_tape 940 u_98)] H := hP
    have hD : va_D A [(h0, .inr (11, [.int 0, .ref h0_tape, .int u_97, .int h0_size, .int h0_limit, .int h0_to, .int h0_from, .int h0_kind, .int h0_number, .int h0_sign, .int h0_fault, .int h0_place, .long h0_word, .int h0_told, .ref h0_now, .ref h0_read, .ref h0_kept, .ref h0_snaps, .ref h0_aside, .ref h0_name, .ref h0_readName, .ref h0_keptName, .ref h0_isKept, .ref h0_onces, .int h0_snapMany, .int h0_lowest, .int h0_highest, .int h0_agreed, .int h0_jurors, .int h0_panelled, .ref h0_inSets, .int h0_surely, .int h0_asked, .ref h0_frees, .int h0_struck, .int h0_beating, .ref h0_text, .int h0_texts, .int h0_seed, .ref h0_line, .ref h0_written, .int h0_lineMany, .int h0_hasWritten, .ref h0_node, .int h0_nodes, .int h0_onesMany, .int h0_within, .int h0_top])), (aI ca h0_tape 940 u_98)] := hD
    try dsimp only at w_96
    obtain ⟨h_99, h_100, h_101, h_102⟩ := w_96
    have h_103 : rg 16 940 u_97 := rl_y h_101 h_94 h_99 (by decide) (by decide)
    have h_104 : rg 16 936 u_97 := rl_x h_102 h_103 h_94 (by decide) (by decide)
    refine lv_aload_n hx hb dX12_feed_41 rfl (lv_at hl 0 rfl) ?_
    refine lv_iload hx hb dX12_feed_42 (lv_at hl 5 rfl) ?_
    refine oC_v (Wc := [(h0, .inr (11, [.int 0, .ref h0_tape, .int u_97, .int h0_size, .int h0_limit, .int h0_to, .int h0_from, .int h0_kind, .int h0_number, .int h0_sign, .int h0_fault, .int h0_place, .long h0_word, .int h0_told, .ref h0_now, .ref h0_read, .ref h0_kept, .ref h0_snaps, .ref h0_aside, .ref h0_name, .ref h0_readName, .ref h0_keptName, .ref h0_isKept, .ref h0_onces, .int h0_snapMany, .int h0_lowest, .int h0_highest, .int h0_agreed, .int h0_jurors, .int h0_panelled, .ref h0_inSets, .int h0_surely, .int h0_asked, .ref h0_frees, .int h0_struck, .int h0_beating, .ref h0_text, .int h0_texts, .int h0_seed, .ref h0_line, .ref h0_written, .int h0_lineMany, .int h0_hasWritten, .ref h0_node, .int h0_nodes, .int h0_onesMany, .int h0_within, .int h0_top])), (aI ca h0_tape 940 u_98)]) (Wr := []) (va_runV (As := [.int a5]) (rest := []) ⟨hx, hb, hml, hown, hts⟩ (s_X12_come l D ca H.size h0 a5 0 h0_tape u_97 h0_size h0_limit h0_to h0_from h0_kind h0_number h0_sign h0_fault h0_place h0_word h0_told h0_now h0_read h0_kept h0_snaps h0_aside h0_name h0_readName h0_keptName h0_isKept h0_onces h0_snapMany h0_lowest h0_highest h0_agreed h0_jurors h0_panelled h0_inSets h0_surely h0_asked h0_frees h0_struck h0_beating h0_text h0_texts h0_seed h0_line h0_written h0_lineMany h0_hasWritten h0_node h0_nodes h0_onesMany h0_within h0_top u_98 (rgw (lo := 0) (hi := 936) h_104 (by decide) (by decide)) i_h0_size i_h0_to i_h0_snapMany i_h0_texts i_h0_lineMany i_h0_hasWritten h_100) (cwV 1 hts gX12_feed_X12_come rfl rfl rfl (by decide +kernel) ⟨Nat.le_of_ble_eq_true rfl, Nat.le_of_ble_eq_true rfl⟩) (oPV (C := RX12) hK hP hD [0, 1] rfl (by decide) 0 rfl (ci := 11) rfl rfl) rfl rfl hl.1 rfl (lv_room (Nat.le_of_ble_eq_true rfl)) dX12_feed_44 ⟨Nat.le_of_ble_eq_true rfl, Nat.le_of_ble_eq_true rfl⟩) hP hD hS hA [0, 1] [] rfl rfl (by decide) (by decide) (fun u H locs w_106 hP hD hS => ?_)
    obtain ⟨u_107, u_108⟩ := u
    have hP : va_P D vwCl [(h0, .inr (11, [.int 0, .ref h0_tape, .int u_107, .int h0_size, .int h0_limit, .int h0_to, .int h0_from, .int h0_kind, .int h0_number, .int h0_sign, .int h0_fault, .int h0_place, .long h0_word, .int h0_told, .ref h0_now, .ref h0_read, .ref h0_kept, .ref h0_snaps, .ref h0_aside, .ref h0_name, .ref h0_readName, .ref h0_keptName, .ref h0_isKept, .ref h0_onces, .int h0_snapMany, .int h0_lowest, .int h0_highest, .int h0_agreed, .int h0_jurors, .int h0_panelled, .ref h0_inSets, .int h0_surely, .int h0_asked, .ref h0_frees, .int h0_struck, .int h0_beating, .ref h0_text, .int h0_texts, .int h0_seed, .ref h0_line, .ref h0_written, .int h0_lineMany, .int h0_hasWritten, .ref h0_node, .int h0_nodes, .int h0_onesMany, .int h0_within, .int h0_top])), (aI ca h0_tape 940 u_108)] H := hP
    have hD : va_D A [(h0, .inr (11, [.int 0, .ref h0_tape, .int u_107, .int h0_size, .int h0_limit, .int h0_to, .int h0_from, .int h0_kind, .int h0_number, .int h0_sign, .int h0_fault, .int h0_place, .long h0_word, .int h0_told, .ref h0_now, .ref h0_read, .ref h0_kept, .ref h0_snaps, .ref h0_aside, .ref h0_name, .ref h0_readName, .ref h0_keptName, .ref h0_isKept, .ref h0_onces, .int h0_snapMany, .int h0_lowest, .int h0_highest, .int h0_agreed, .int h0_jurors, .int h0_panelled, .ref h0_inSets, .int h0_surely, .int h0_asked, .ref h0_frees, .int h0_struck, .int h0_beating, .ref h0_text, .int h0_texts, .int h0_seed, .ref h0_line, .ref h0_written, .int h0_lineMany, .int h0_hasWritten, .ref h0_node, .int h0_nodes, .int h0_onesMany, .int h0_within, .int h0_top])), (aI ca h0_tape 940 u_108)] := hD
    try dsimp only at w_106
    obtain ⟨h_109, h_110, h_111, h_112⟩ := w_106
    have h_113 : rg 20 940 u_107 := rl_y h_111 h_104 h_109 (by decide) (by decide)
    refine lv_aload_n hx hb dX12_feed_47 rfl (lv_at hl 0 rfl) ?_
    refine va_get (D := D) (ci := 11) (v := .int u_107) (C := RX12) (T := TX12) (N := 48) hx hb hts k2 hown hK.1 hP 0 rfl rfl 2 (by decide) k3 (fun _ h9 => h9) rfl dX12_feed_48 ?_
    exact oE_i hx hb hr rfl hlocks hP hD hS (u_107, u_108) [0, 1] rfl (by decide) ⟨(rgw (lo := (-1)) (hi := 940) h_113 (by decide) (by decide)), h_113, h_110⟩ (Nat.le_of_ble_eq_true rfl) (Nat.le_of_ble_eq_true rfl) dX12_feed_51
  · skip
    have o_114 : rl 1 940 x_59 := rl_nle c_62
    have h_115 : rg 941 960 x_59 := rl_y o_114 (⟨by decide, by decide⟩ : rg 940 940 (940 : Int32)) h_60 (by decide) (by decide)
    have h_116 : rg 921 940 h0_taped := ⟨by have q := lqe l_61; have q1 := (h_115).1; have q2 := (i_h0_taped).1; omega, by have q := lqe l_61; have q1 := (h_115).2; have q2 := (i_h0_taped).2; omega⟩
    refine lv_iconst (v := (-1)) hx hb dX12_feed_18 (by decide) ?_
    exact oE_i hx hb hr rfl hlocks hP hD hS (h0_taped, F_h0_tape) [0, 1] rfl (by decide) ⟨(⟨by decide, by decide⟩ : rg (-1) 940 ((-1) : Int32)), (rgw (lo := 20) (hi := 940) h_116 (by decide) (by decide)), s_h0_tape_0⟩ (Nat.le_of_ble_eq_true rfl) (Nat.le_of_ble_eq_true rfl) dX12_feed_19
