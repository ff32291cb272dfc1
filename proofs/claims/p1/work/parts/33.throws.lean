theorem dX11_juror_0 : decode cX11_juror 0 = .ok (.aload_n 0, 1) := by decide +kernel
theorem dX11_juror_1 : decode cX11_juror 1 = .ok (.iload_n 1, 1) := by decide +kernel
theorem dX11_juror_2 : decode cX11_juror 2 = .ok (.invokevirtual 137, 3) := by decide +kernel
theorem dX11_juror_5 : decode cX11_juror 5 = .ok (.ifCond .eq 13, 3) := by decide +kernel
theorem dX11_juror_18 : decode cX11_juror 18 = .ok (.new 141, 3) := by decide +kernel
theorem dX11_juror_21 : decode cX11_juror 21 = .ok (.dup, 1) := by decide +kernel
theorem dX11_juror_22 : decode cX11_juror 22 = .ok (.invokespecial 143, 3) := by decide +kernel
theorem dX11_juror_25 : decode cX11_juror 25 = .ok (.athrow, 1) := by decide +kernel
set_option maxRecDepth 20000 in
theorem ggX11_juror_X11_isJuror : GoodIn wsX11_juror wsX11_isJuror := goodIn_r _ [16, 3, 17, 18, 19, 20, 21, 22, 23, 24, 25, 26, 27, 28, 29, 30, 31, 32, 33, 34, 35, 36, 37, 38, 39, 40, 41, 42, 43, 44, 45, 46, 47, 48] rfl (by decide +kernel)
set_option maxRecDepth 20000 in
theorem gX11_juror_X11_isJuror : GoodIn wsX11_juror (wsV RX11 137 RX11 yX11_isJuror wsX11_isJuror) := goodIn_app (goodIn_of _ (by decide +kernel)) ggX11_juror_X11_isJuror
set_option maxHeartbeats 4000000 in
set_option maxRecDepth 100000 in
theorem x_juror (l : Launch) (hl0 : l.stackTraces = false) (D : va_G) (ca : Nat → ClassId) (ad : Nat → Nat) (wt : Nat) (sz : Nat) (h0 : Nat) (j0 : Int32) (j1 : Int32) (t0 : Nat) (l0 : Nat) (s0 : Nat) (y0 : Nat) (c0 : Nat) (b0 : Nat) (e0 : Nat) (n0 : Nat) (w0 : Nat) (i0 : Nat) (g0 : Nat) (a0 : Nat) (k0 : Nat) (z0 : Nat) (l0_jurorName : Nat) (l0_floorName : Nat) (l0_caseName : Nat) (l0_pitch : Nat) (l0_length : Nat) (l0_hands : Nat) (l0_tune : Nat) (l0_dull : Nat) (l0_caseFloor : Nat) (l0_tuned : Nat)  : xMet l yX11_juror wsX11_juror ({ frames := 6, cells := 1, slots := 6, locals := 81 } : Room) [.ref h0, .int j0, .int j1] D ca ad wt sz [(h0, .inr (10, [.ref t0, .ref l0, .ref s0, .ref y0, .ref c0, .ref b0, .ref e0, .ref n0, .ref w0, .ref i0, .ref g0, .ref a0, .ref k0, .ref z0, .int 0])), (l0, .inr (5, [.int 0, .int 0, .int 0, .int 3, .int 1, .int 0, .ref l0_jurorName, .ref l0_floorName, .ref l0_caseName, .ref l0_pitch, .ref l0_length, .ref l0_hands, .ref l0_tune, .ref l0_dull, .ref l0_caseFloor, .ref l0_tuned]))] (xQ D) 1 6 := by
  refine xM (cc := cX11_juror) (maxL := 3) (ret := (some .int)) (by decide) rfl (Nat.le_of_ble_eq_true rfl) [(0, .ref h0), (1, .int j0), (2, .int j1)] rfl ?_
  intro p e s m below meth c A H locs ls hx hb hr hml hts hown hlocks hin hK hP hD hA hS hl hZ htab
  have hown : s.vm.findClass RX11 = some m.cls := hown
  have k1 : ∀ w ∈ (vx_at0 RX11 143 nse nseN).filter goodWord, w ∈ wsX11_juror := fun _ h => List.mem_cons_of_mem _ (List.mem_append_right _ h)
  have k2 := hts (.classLink RX11 141 nse) (by decide +kernel)
  have k3 := hts (.initialized nse) (by decide +kernel)
  refine lv_aload_n hx hb dX11_juror_0 rfl (lv_at hl 0 rfl) ?_
  refine lv_iload_n hx hb dX11_juror_1 rfl (lv_at hl 1 rfl) ?_
  refine oC_i (Wc := [(h0, .inr (10, [.ref t0, .ref l0, .ref s0, .ref y0, .ref c0, .ref b0, .ref e0, .ref n0, .ref w0, .ref i0, .ref g0, .ref a0, .ref k0, .ref z0, .int 0])), (l0, .inr (5, [.int 0, .int 0, .int 0, .int 3, .int 1, .int 0, .ref l0_jurorName, .ref l0_floorName, .ref l0_caseName, .ref l0_pitch, .ref l0_length, .ref l0_hands, .ref l0_tune, .ref l0_dull, .ref l0_caseFloor, .ref l0_tuned]))]) (Wr := []) (va_runV (As := [.int j0]) (rest := []) ⟨hx, hb, hml, hown, hts⟩ (c_isJuror l D ca H.size h0 j0 t0 l0 s0 y0 c0 b0 e0 n0 w0 i0 g0 a0 k0 z0 l0_jurorName l0_floorName l0_caseName l0_pitch l0_length l0_hands l0_tune l0_dull l0_caseFloor l0_tuned) (cwV 1 hts gX11_juror_X11_isJuror rfl rfl rfl (by decide +kernel) ⟨Nat.le_of_ble_eq_true rfl, Nat.le_of_ble_eq_true rfl⟩) (oPV (C := RX11) hK hP hD [0, 1] rfl (by decide) 0 rfl (ci := 10) rfl rfl) rfl rfl hl.1 rfl (lv_room (Nat.le_of_ble_eq_true rfl)) dX11_juror_2 ⟨Nat.le_of_ble_eq_true rfl, Nat.le_of_ble_eq_true rfl⟩) hP hD hS hA [0, 1] [] rfl rfl (by decide) (by decide) (fun r_1 u H locs w_2 hP hD hS => ?_)
  obtain ⟨⟩ := u
  try dsimp only at w_2
  subst w_2
  have hP : va_P D vwCl [(h0, .inr (10, [.ref t0, .ref l0, .ref s0, .ref y0, .ref c0, .ref b0, .ref e0, .ref n0, .ref w0, .ref i0, .ref g0, .ref a0, .ref k0, .ref z0, .int 0])), (l0, .inr (5, [.int 0, .int 0, .int 0, .int 3, .int 1, .int 0, .ref l0_jurorName, .ref l0_floorName, .ref l0_caseName, .ref l0_pitch, .ref l0_length, .ref l0_hands, .ref l0_tune, .ref l0_dull, .ref l0_caseFloor, .ref l0_tuned]))] H := hP
  have hD : va_D A [(h0, .inr (10, [.ref t0, .ref l0, .ref s0, .ref y0, .ref c0, .ref b0, .ref e0, .ref n0, .ref w0, .ref i0, .ref g0, .ref a0, .ref k0, .ref z0, .int 0])), (l0, .inr (5, [.int 0, .int 0, .int 0, .int 3, .int 1, .int 0, .ref l0_jurorName, .ref l0_floorName, .ref l0_caseName, .ref l0_pitch, .ref l0_length, .ref l0_hands, .ref l0_tune, .ref l0_dull, .ref l0_caseFloor, .ref l0_tuned]))] := hD
  refine lv_if_eq (tgt := 18) hx hb dX11_juror_5 (by decide) (fun _ => ?_) (fun c => absurd (by decide) c)
  exact xthrow hx hb hl0 hts k1 hown k2 k3 hZ hS (by rw [hml]; exact hl.1) htab dX11_juror_18 dX11_juror_21 dX11_juror_22 dX11_juror_25 (Nat.le_of_ble_eq_true rfl) (Nat.le_of_ble_eq_true rfl) (Nat.le_of_ble_eq_true rfl) (Nat.le_of_ble_eq_true rfl) hlocks (Nat.le_of_ble_eq_true rfl) (Nat.le_of_ble_eq_true rfl)
theorem dX11_trial_0 : decode cX11_trial 0 = .ok (.aload_n 0, 1) := by decide +kernel
theorem dX11_trial_1 : decode cX11_trial 1 = .ok (.iload_n 1, 1) := by decide +kernel
theorem dX11_trial_2 : decode cX11_trial 2 = .ok (.invokevirtual 164, 3) := by decide +kernel
theorem dX11_trial_5 : decode cX11_trial 5 = .ok (.ifCond .eq 12, 3) := by decide +kernel
theorem dX11_trial_17 : decode cX11_trial 17 = .ok (.new 141, 3) := by decide +kernel
theorem dX11_trial_20 : decode cX11_trial 20 = .ok (.dup, 1) := by decide +kernel
theorem dX11_trial_21 : decode cX11_trial 21 = .ok (.invokespecial 143, 3) := by decide +kernel
theorem dX11_trial_24 : decode cX11_trial 24 = .ok (.athrow, 1) := by decide +kernel
set_option maxRecDepth 20000 in
theorem ggX11_trial_X11_isCase : GoodIn wsX11_trial wsX11_isCase := goodIn_r _ [14, 3, 15, 16, 17, 18, 19, 20, 21, 22, 23, 24, 25, 26, 27, 28, 29, 30, 31, 32, 33, 34, 35, 36, 37, 38, 39, 40, 41, 42, 43, 44, 45, 46] rfl (by decide +kernel)
set_option maxRecDepth 20000 in
theorem gX11_trial_X11_isCase : GoodIn wsX11_trial (wsV RX11 164 RX11 yX11_isCase wsX11_isCase) := goodIn_app (goodIn_of _ (by decide +kernel)) ggX11_trial_X11_isCase
set_option maxHeartbeats 4000000 in
set_option maxRecDepth 100000 in
theorem x_trial (l : Launch) (hl0 : l.stackTraces = false) (D : va_G) (ca : Nat → ClassId) (ad : Nat → Nat) (wt : Nat) (sz : Nat) (h0 : Nat) (j0 : Int32) (j1 : Int32) (t0 : Nat) (l0 : Nat) (s0 : Nat) (y0 : Nat) (c0 : Nat) (b0 : Nat) (e0 : Nat) (n0 : Nat) (w0 : Nat) (i0 : Nat) (g0 : Nat) (a0 : Nat) (k0 : Nat) (z0 : Nat) (l0_jurorName : Nat) (l0_floorName : Nat) (l0_caseName : Nat) (l0_pitch : Nat) (l0_length : Nat) (l0_hands : Nat) (l0_tune : Nat) (l0_dull : Nat) (l0_caseFloor : Nat) (l0_tuned : Nat)  : xMet l yX11_trial wsX11_trial ({ frames := 6, cells := 1, slots := 6, locals := 81 } : Room) [.ref h0, .int j0, .int j1] D ca ad wt sz [(h0, .inr (10, [.ref t0, .ref l0, .ref s0, .ref y0, .ref c0, .ref b0, .ref e0, .ref n0, .ref w0, .ref i0, .ref g0, .ref a0, .ref k0, .ref z0, .int 0])), (l0, .inr (5, [.int 0, .int 0, .int 0, .int 3, .int 1, .int 0, .ref l0_jurorName, .ref l0_floorName, .ref l0_caseName, .ref l0_pitch, .ref l0_length, .ref l0_hands, .ref l0_tune, .ref l0_dull, .ref l0_caseFloor, .ref l0_tuned]))] (xQ D) 1 6 := by
  refine xM (cc := cX11_trial) (maxL := 3) (ret := (some .int)) (by decide) rfl (Nat.le_of_ble_eq_true rfl) [(0, .ref h0), (1, .int j0), (2, .int j1)] rfl ?_
  intro p e s m below meth c A H locs ls hx hb hr hml hts hown hlocks hin hK hP hD hA hS hl hZ htab
  have hown : s.vm.findClass RX11 = some m.cls := hown
  have k1 : ∀ w ∈ (vx_at0 RX11 143 nse nseN).filter goodWord, w ∈ wsX11_trial := fun _ h => List.mem_cons_of_mem _ (List.mem_append_right _ h)
  have k2 := hts (.classLink RX11 141 nse) (by decide +kernel)
  have k3 := hts (.initialized nse) (by decide +kernel)
  refine lv_aload_n hx hb dX11_trial_0 rfl (lv_at hl 0 rfl) ?_
  refine lv_iload_n hx hb dX11_trial_1 rfl (lv_at hl 1 rfl) ?_
  refine oC_i (Wc := [(h0, .inr (10, [.ref t0, .ref l0, .ref s0, .ref y0, .ref c0, .ref b0, .ref e0, .ref n0, .ref w0, .ref i0, .ref g0, .ref a0, .ref k0, .ref z0, .int 0])), (l0, .inr (5, [.int 0, .int 0, .int 0, .int 3, .int 1, .int 0, .ref l0_jurorName, .ref l0_floorName, .ref l0_caseName, .ref l0_pitch, .ref l0_length, .ref l0_hands, .ref l0_tune, .ref l0_dull, .ref l0_caseFloor, .ref l0_tuned]))]) (Wr := []) (va_runV (As := [.int j0]) (rest := []) ⟨hx, hb, hml, hown, hts⟩ (c_isCase l D ca H.size h0 j0 t0 l0 s0 y0 c0 b0 e0 n0 w0 i0 g0 a0 k0 z0 l0_jurorName l0_floorName l0_caseName l0_pitch l0_length l0_hands l0_tune l0_dull l0_caseFloor l0_tuned) (cwV 1 hts gX11_trial_X11_isCase rfl rfl rfl (by decide +kernel) ⟨Nat.le_of_ble_eq_true rfl, Nat.le_of_ble_eq_true rfl⟩) (oPV (C := RX11) hK hP hD [0, 1] rfl (by decide) 0 rfl (ci := 10) rfl rfl) rfl rfl hl.1 rfl (lv_room (Nat.le_of_ble_eq_true rfl)) dX11_trial_2 ⟨Nat.le_of_ble_eq_true rfl, Nat.le_of_ble_eq_true rfl⟩) hP hD hS hA [0, 1] [] rfl rfl (by decide) (by decide) (fun r_1 u H locs w_2 hP hD hS => ?_)
  obtain ⟨⟩ := u
  try dsimp only at w_2
  subst w_2
  have hP : va_P D vwCl [(h0, .inr (10, [.ref t0, .ref l0, .ref s0, .ref y0, .ref c0, .ref b0, .ref e0, .ref n0, .ref w0, .ref i0, .ref g0, .ref a0, .ref k0, .ref z0, .int 0])), (l0, .inr (5, [.int 0, .int 0, .int 0, .int 3, .int 1, .int 0, .ref l0_jurorName, .ref l0_floorName, .ref l0_caseName, .ref l0_pitch, .ref l0_length, .ref l0_hands, .ref l0_tune, .ref l0_dull, .ref l0_caseFloor, .ref l0_tuned]))] H := hP
  have hD : va_D A [(h0, .inr (10, [.ref t0, .ref l0, .ref s0, .ref y0, .ref c0, .ref b0, .ref e0, .ref n0, .ref w0, .ref i0, .ref g0, .ref a0, .ref k0, .ref z0, .int 0])), (l0, .inr (5, [.int 0, .int 0, .int 0, .int 3, .int 1, .int 0, .ref l0_jurorName, .ref l0_floorName, .ref l0_caseName, .ref l0_pitch, .ref l0_length, .ref l0_hands, .ref l0_tune, .ref l0_dull, .ref l0_caseFloor, .ref l0_tuned]))] := hD
  refine lv_if_eq (tgt := 17) hx hb dX11_trial_5 (by decide) (fun _ => ?_) (fun c => absurd (by decide) c)
  exact xthrow hx hb hl0 hts k1 hown k2 k3 hZ hS (by rw [hml]; exact hl.1) htab dX11_trial_17 dX11_trial_20 dX11_trial_21 dX11_trial_24 (Nat.le_of_ble_eq_true rfl) (Nat.le_of_ble_eq_true rfl) (Nat.le_of_ble_eq_true rfl) (Nat.le_of_ble_eq_true rfl) hlocks (Nat.le_of_ble_eq_true rfl) (Nat.le_of_ble_eq_true rfl)
theorem dX11_likely_0 : decode cX11_likely 0 = .ok (.aload_n 0, 1) := by decide +kernel
theorem dX11_likely_1 : decode cX11_likely 1 = .ok (.iload_n 1, 1) := by decide +kernel
theorem dX11_likely_2 : decode cX11_likely 2 = .ok (.invokevirtual 164, 3) := by decide +kernel
theorem dX11_likely_5 : decode cX11_likely 5 = .ok (.ifCond .eq 12, 3) := by decide +kernel
theorem dX11_likely_17 : decode cX11_likely 17 = .ok (.new 141, 3) := by decide +kernel
theorem dX11_likely_20 : decode cX11_likely 20 = .ok (.dup, 1) := by decide +kernel
theorem dX11_likely_21 : decode cX11_likely 21 = .ok (.invokespecial 143, 3) := by decide +kernel
theorem dX11_likely_24 : decode cX11_likely 24 = .ok (.athrow, 1) := by decide +kernel
set_option maxRecDepth 20000 in
theorem ggX11_likely_X11_isCase : GoodIn wsX11_likely wsX11_isCase := goodIn_r _ [13, 4, 14, 80, 81, 82, 83, 84, 85, 86, 87, 88, 89, 90, 91, 92, 93, 94, 95, 96, 97, 98, 99, 100, 101, 102, 103, 104, 105, 106, 107, 108, 109, 110] rfl (by decide +kernel)
set_option maxRecDepth 20000 in
theorem gX11_likely_X11_isCase : GoodIn wsX11_likely (wsV RX11 164 RX11 yX11_isCase wsX11_isCase) := goodIn_app (goodIn_of _ (by decide +kernel)) ggX11_likely_X11_isCase
set_option maxHeartbeats 4000000 in
set_option maxRecDepth 100000 in
theorem x_likely (l : Launch) (hl0 : l.stackTraces = false) (D : va_G) (ca : Nat → ClassId) (ad : Nat → Nat) (wt : Nat) (sz : Nat) (h0 : Nat) (j0 : Int32) (j1 : Int32) (t0 : Nat) (l0 : Nat) (s0 : Nat) (y0 : Nat) (c0 : Nat) (b0 : Nat) (e0 : Nat) (n0 : Nat) (w0 : Nat) (i0 : Nat) (g0 : Nat) (a0 : Nat) (k0 : Nat) (z0 : Nat) (l0_jurorName : Nat) (l0_floorName : Nat) (l0_caseName : Nat) (l0_pitch : Nat) (l0_length : Nat) (l0_hands : Nat) (l0_tune : Nat) (l0_dull : Nat) (l0_caseFloor : Nat) (l0_tuned : Nat)  : xMet l yX11_likely wsX11_likely ({ frames := 6, cells := 1, slots := 6, locals := 81 } : Room) [.ref h0, .int j0, .int j1] D ca ad wt sz [(h0, .inr (10, [.ref t0, .ref l0, .ref s0, .ref y0, .ref c0, .ref b0, .ref e0, .ref n0, .ref w0, .ref i0, .ref g0, .ref a0, .ref k0, .ref z0, .int 0])), (l0, .inr (5, [.int 0, .int 0, .int 0, .int 3, .int 1, .int 0, .ref l0_jurorName, .ref l0_floorName, .ref l0_caseName, .ref l0_pitch, .ref l0_length, .ref l0_hands, .ref l0_tune, .ref l0_dull, .ref l0_caseFloor, .ref l0_tuned]))] (xQl D) 1 6 := by
  refine xM (cc := cX11_likely) (maxL := 3) (ret := (some .long)) (by decide) rfl (Nat.le_of_ble_eq_true rfl) [(0, .ref h0), (1, .int j0), (2, .int j1)] rfl ?_
  intro p e s m below meth c A H locs ls hx hb hr hml hts hown hlocks hin hK hP hD hA hS hl hZ htab
  have hown : s.vm.findClass RX11 = some m.cls := hown
  have k1 : ∀ w ∈ (vx_at0 RX11 143 nse nseN).filter goodWord, w ∈ wsX11_likely := fun _ h => List.mem_cons_of_mem _ (List.mem_append_right _ h)
  have k2 := hts (.classLink RX11 141 nse) (by decide +kernel)
  have k3 := hts (.initialized nse) (by decide +kernel)
  refine lv_aload_n hx hb dX11_likely_0 rfl (lv_at hl 0 rfl) ?_
  refine lv_iload_n hx hb dX11_likely_1 rfl (lv_at hl 1 rfl) ?_
  refine oC_i (Wc := [(h0, .inr (10, [.ref t0, .ref l0, .ref s0, .ref y0, .ref c0, .ref b0, .ref e0, .ref n0, .ref w0, .ref i0, .ref g0, .ref a0, .ref k0, .ref z0, .int 0])), (l0, .inr (5, [.int 0, .int 0, .int 0, .int 3, .int 1, .int 0, .ref l0_jurorName, .ref l0_floorName, .ref l0_caseName, .ref l0_pitch, .ref l0_length, .ref l0_hands, .ref l0_tune, .ref l0_dull, .ref l0_caseFloor, .ref l0_tuned]))]) (Wr := []) (va_runV (As := [.int j0]) (rest := []) ⟨hx, hb, hml, hown, hts⟩ (c_isCase l D ca H.size h0 j0 t0 l0 s0 y0 c0 b0 e0 n0 w0 i0 g0 a0 k0 z0 l0_jurorName l0_floorName l0_caseName l0_pitch l0_length l0_hands l0_tune l0_dull l0_caseFloor l0_tuned) (cwV 1 hts gX11_likely_X11_isCase rfl rfl rfl (by decide +kernel) ⟨Nat.le_of_ble_eq_true rfl, Nat.le_of_ble_eq_true rfl⟩) (oPV (C := RX11) hK hP hD [0, 1] rfl (by decide) 0 rfl (ci := 10) rfl rfl) rfl rfl hl.1 rfl (lv_room (Nat.le_of_ble_eq_true rfl)) dX11_likely_2 ⟨Nat.le_of_ble_eq_true rfl, Nat.le_of_ble_eq_true rfl⟩) hP hD hS hA [0, 1] [] rfl rfl (by decide) (by decide) (fun r_1 u H locs w_2 hP hD hS => ?_)
  obtain ⟨⟩ := u
  try dsimp only at w_2
  subst w_2
  have hP : va_P D vwCl [(h0, .inr (10, [.ref t0, .ref l0, .ref s0, .ref y0, .ref c0, .ref b0, .ref e0, .ref n0, .ref w0, .ref i0, .ref g0, .ref a0, .ref k0, .ref z0, .int 0])), (l0, .inr (5, [.int 0, .int 0, .int 0, .int 3, .int 1, .int 0, .ref l0_jurorName, .ref l0_floorName, .ref l0_caseName, .ref l0_pitch, .ref l0_length, .ref l0_hands, .ref l0_tune, .ref l0_dull, .ref l0_caseFloor, .ref l0_tuned]))] H := hP
  have hD : va_D A [(h0, .inr (10, [.ref t0, .ref l0, .ref s0, .ref y0, .ref c0, .ref b0, .ref e0, .ref n0, .ref w0, .ref i0, .ref g0, .ref a0, .ref k0, .ref z0, .int 0])), (l0, .inr (5, [.int 0, .int 0, .int 0, .int 3, .int 1, .int 0, .ref l0_jurorName, .ref l0_floorName, .ref l0_caseName, .ref l0_pitch, .ref l0_length, .ref l0_hands, .ref l0_tune, .ref l0_dull, .ref l0_caseFloor, .ref l0_tuned]))] := hD
  refine lv_if_eq (tgt := 17) hx hb dX11_likely_5 (by decide) (fun _ => ?_) (fun c => absurd (by decide) c)
  exact xthrow hx hb hl0 hts k1 hown k2 k3 hZ hS (by rw [hml]; exact hl.1) htab dX11_likely_17 dX11_likely_20 dX11_likely_21 dX11_likely_24 (Nat.le_of_ble_eq_true rfl) (Nat.le_of_ble_eq_true rfl) (Nat.le_of_ble_eq_true rfl) (Nat.le_of_ble_eq_true rfl) hlocks (Nat.le_of_ble_eq_true rfl) (Nat.le_of_ble_eq_true rfl)
theorem dX11_panel_0 : decode cX11_panel 0 = .ok (.aload_n 0, 1) := by decide +kernel
theorem dX11_panel_1 : decode cX11_panel 1 = .ok (.iload_n 1, 1) := by decide +kernel
theorem dX11_panel_2 : decode cX11_panel 2 = .ok (.invokevirtual 164, 3) := by decide +kernel
theorem dX11_panel_5 : decode cX11_panel 5 = .ok (.ifCond .eq 28, 3) := by decide +kernel
theorem dX11_panel_33 : decode cX11_panel 33 = .ok (.new 141, 3) := by decide +kernel
theorem dX11_panel_36 : decode cX11_panel 36 = .ok (.dup, 1) := by decide +kernel
theorem dX11_panel_37 : decode cX11_panel 37 = .ok (.invokespecial 143, 3) := by decide +kernel
theorem dX11_panel_40 : decode cX11_panel 40 = .ok (.athrow, 1) := by decide +kernel
set_option maxRecDepth 20000 in
theorem ggX11_panel_X11_isCase : GoodIn wsX11_panel wsX11_isCase := goodIn_r _ [14, 3, 15, 87, 88, 89, 90, 91, 92, 93, 94, 95, 96, 97, 98, 99, 100, 101, 102, 103, 104, 105, 106, 107, 108, 109, 110, 111, 112, 113, 114, 115, 116, 117] rfl (by decide +kernel)
set_option maxRecDepth 20000 in
theorem gX11_panel_X11_isCase : GoodIn wsX11_panel (wsV RX11 164 RX11 yX11_isCase wsX11_isCase) := goodIn_app (goodIn_of _ (by decide +kernel)) ggX11_panel_X11_isCase
set_option maxHeartbeats 4000000 in
set_option maxRecDepth 100000 in
theorem x_panel (l : Launch) (hl0 : l.stackTraces = false) (D : va_G) (ca : Nat → ClassId) (ad : Nat → Nat) (wt : Nat) (sz : Nat) (h0 : Nat) (j0 : Int32) (j1 : Int32) (j2 : Int32) (t0 : Nat) (l0 : Nat) (s0 : Nat) (y0 : Nat) (c0 : Nat) (b0 : Nat) (e0 : Nat) (n0 : Nat) (w0 : Nat) (i0 : Nat) (g0 : Nat) (a0 : Nat) (k0 : Nat) (z0 : Nat) (l0_jurorName : Nat) (l0_floorName : Nat) (l0_caseName : Nat) (l0_pitch : Nat) (l0_length : Nat) (l0_hands : Nat) (l0_tune : Nat) (l0_dull : Nat) (l0_caseFloor : Nat) (l0_tuned : Nat)  : xMet l yX11_panel wsX11_panel ({ frames := 6, cells := 1, slots := 6, locals := 81 } : Room) [.ref h0, .int j0, .int j1, .int j2] D ca ad wt sz [(h0, .inr (10, [.ref t0, .ref l0, .ref s0, .ref y0, .ref c0, .ref b0, .ref e0, .ref n0, .ref w0, .ref i0, .ref g0, .ref a0, .ref k0, .ref z0, .int 0])), (l0, .inr (5, [.int 0, .int 0, .int 0, .int 3, .int 1, .int 0, .ref l0_jurorName, .ref l0_floorName, .ref l0_caseName, .ref l0_pitch, .ref l0_length, .ref l0_hands, .ref l0_tune, .ref l0_dull, .ref l0_caseFloor, .ref l0_tuned]))] (xQl D) 1 6 := by
  refine xM (cc := cX11_panel) (maxL := 4) (ret := (some .long)) (by decide) rfl (Nat.le_of_ble_eq_true rfl) [(0, .ref h0), (1, .int j0), (2, .int j1), (3, .int j2)] rfl ?_
  intro p e s m below meth c A H locs ls hx hb hr hml hts hown hlocks hin hK hP hD hA hS hl hZ htab
  have hown : s.vm.findClass RX11 = some m.cls := hown
  have k1 : ∀ w ∈ (vx_at0 RX11 143 nse nseN).filter goodWord, w ∈ wsX11_panel := fun _ h => List.mem_cons_of_mem _ (List.mem_append_right _ h)
  have k2 := hts (.classLink RX11 141 nse) (by decide +kernel)
  have k3 := hts (.initialized nse) (by decide +kernel)
  refine lv_aload_n hx hb dX11_panel_0 rfl (lv_at hl 0 rfl) ?_
  refine lv_iload_n hx hb dX11_panel_1 rfl (lv_at hl 1 rfl) ?_
  refine oC_i (Wc := [(h0, .inr (10, [.ref t0, .ref l0, .ref s0, .ref y0, .ref c0, .ref b0, .ref e0, .ref n0, .ref w0, .ref i0, .ref g0, .ref a0, .ref k0, .ref z0, .int 0])), (l0, .inr (5, [.int 0, .int 0, .int 0, .int 3, .int 1, .int 0, .ref l0_jurorName, .ref l0_floorName, .ref l0_caseName, .ref l0_pitch, .ref l0_length, .ref l0_hands, .ref l0_tune, .ref l0_dull, .ref l0_caseFloor, .ref l0_tuned]))]) (Wr := []) (va_runV (As := [.int j0]) (rest := []) ⟨hx, hb, hml, hown, hts⟩ (c_isCase l D ca H.size h0 j0 t0 l0 s0 y0 c0 b0 e0 n0 w0 i0 g0 a0 k0 z0 l0_jurorName l0_floorName l0_caseName l0_pitch l0_length l0_hands l0_tune l0_dull l0_caseFloor l0_tuned) (cwV 1 hts gX11_panel_X11_isCase rfl rfl rfl (by decide +kernel) ⟨Nat.le_of_ble_eq_true rfl, Nat.le_of_ble_eq_true rfl⟩) (oPV (C := RX11) hK hP hD [0, 1] rfl (by decide) 0 rfl (ci := 10) rfl rfl) rfl rfl hl.1 rfl (lv_room (Nat.le_of_ble_eq_true rfl)) dX11_panel_2 ⟨Nat.le_of_ble_eq_true rfl, Nat.le_of_ble_eq_true rfl⟩) hP hD hS hA [0, 1] [] rfl rfl (by decide) (by decide) (fun r_1 u H locs w_2 hP hD hS => ?_)
  obtain ⟨⟩ := u
  try dsimp only at w_2
  subst w_2
  have hP : va_P D vwCl [(h0, .inr (10, [.ref t0, .ref l0, .ref s0, .ref y0, .ref c0, .ref b0, .ref e0, .ref n0, .ref w0, .ref i0, .ref g0, .ref a0, .ref k0, .ref z0, .int 0])), (l0, .inr (5, [.int 0, .int 0, .int 0, .int 3, .int 1, .int 0, .ref l0_jurorName, .ref l0_floorName, .ref l0_caseName, .ref l0_pitch, .ref l0_length, .ref l0_hands, .ref l0_tune, .ref l0_dull, .ref l0_caseFloor, .ref l0_tuned]))] H := hP
  have hD : va_D A [(h0, .inr (10, [.ref t0, .ref l0, .ref s0, .ref y0, .ref c0, .ref b0, .ref e0, .ref n0, .ref w0, .ref i0, .ref g0, .ref a0, .ref k0, .ref z0, .int 0])), (l0, .inr (5, [.int 0, .int 0, .int 0, .int 3, .int 1, .int 0, .ref l0_jurorName, .ref l0_floorName, .ref l0_caseName, .ref l0_pitch, .ref l0_length, .ref l0_hands, .ref l0_tune, .ref l0_dull, .ref l0_caseFloor, .ref l0_tuned]))] := hD
  refine lv_if_eq (tgt := 33) hx hb dX11_panel_5 (by decide) (fun _ => ?_) (fun c => absurd (by decide) c)
  exact xthrow hx hb hl0 hts k1 hown k2 k3 hZ hS (by rw [hml]; exact hl.1) htab dX11_panel_33 dX11_panel_36 dX11_panel_37 dX11_panel_40 (Nat.le_of_ble_eq_true rfl) (Nat.le_of_ble_eq_true rfl) (Nat.le_of_ble_eq_true rfl) (Nat.le_of_ble_eq_true rfl) hlocks (Nat.le_of_ble_eq_true rfl) (Nat.le_of_ble_eq_true rfl)
theorem dL_juror_0 : decode cL_juror 0 = .ok (.aload_n 3, 1) := by decide +kernel
theorem dL_juror_1 : decode cL_juror 1 = .ok (.iconst 0, 1) := by decide +kernel
theorem dL_juror_2 : decode cL_juror 2 = .ok (.aload_n 0, 1) := by decide +kernel
theorem dL_juror_3 : decode cL_juror 3 = .ok (.iload_n 1, 1) := by decide +kernel
theorem dL_juror_4 : decode cL_juror 4 = .ok (.iload_n 2, 1) := by decide +kernel
theorem dL_juror_5 : decode cL_juror 5 = .ok (.invokevirtual 7, 3) := by decide +kernel
theorem dL_juror_13 : decode cL_juror 13 = .ok (.astore 4, 2) := by decide +kernel
theorem dL_juror_15 : decode cL_juror 15 = .ok (.iconst 1, 1) := by decide +kernel
theorem dL_juror_16 : decode cL_juror 16 = .ok (.ireturn, 1) := by decide +kernel
set_option maxRecDepth 20000 in
theorem ggL_juror_X11_juror : GoodIn wsL_juror wsX11_juror := goodIn_ca (goodIn_r _ [6, 7, 8, 9, 10, 11, 12, 13, 14, 15, 16, 17, 18, 19, 20, 5, 21, 22, 23, 24, 25, 26, 27, 28, 29, 30, 31, 32, 33, 34, 35, 36, 37, 38, 39, 40, 41, 42, 43, 44, 45, 46, 47, 48, 49, 50, 51, 52, 53, 54, 55, 56, 57, 58, 59, 60, 61, 62, 63, 64] rfl (by decide +kernel)) (goodIn_sub (fun _ h => List.mem_cons_of_mem _ (List.mem_append_right _ h)) (by decide +kernel))
set_option maxRecDepth 20000 in
theorem gL_juror_X11_juror : GoodIn wsL_juror (wsV RL 7 RX11 yX11_juror wsX11_juror) := goodIn_app (goodIn_of _ (by decide +kernel)) ggL_juror_X11_juror
set_option maxHeartbeats 4000000 in
set_option maxRecDepth 100000 in
theorem w_juror (l : Launch) (hl0 : l.stackTraces = false) (D : va_G) (ca : Nat → ClassId) (ad : Nat → Nat) (wt : Nat) (sz : Nat) (h0 : Nat) (j0 : Int32) (j1 : Int32) (o0 : Nat) (t0 : Nat) (l0 : Nat) (s0 : Nat) (y0 : Nat) (c0 : Nat) (b0 : Nat) (e0 : Nat) (n0 : Nat) (w0 : Nat) (i0 : Nat) (g0 : Nat) (a0 : Nat) (k0 : Nat) (z0 : Nat) (l0_jurorName : Nat) (l0_floorName : Nat) (l0_caseName : Nat) (l0_pitch : Nat) (l0_length : Nat) (l0_hands : Nat) (l0_tune : Nat) (l0_dull : Nat) (l0_caseFloor : Nat) (l0_tuned : Nat) (f_o0 : Nat → Int64) : sMet l yL_juror wsL_juror ({ frames := 7, cells := 1, slots := 6, locals := 103 } : Room) [.ref h0, .int j0, .int j1, .ref o0] D ca ad wt sz [(h0, .inr (10, [.ref t0, .ref l0, .ref s0, .ref y0, .ref c0, .ref b0, .ref e0, .ref n0, .ref w0, .ref i0, .ref g0, .ref a0, .ref k0, .ref z0, .int 0])), (l0, .inr (5, [.int 0, .int 0, .int 0, .int 3, .int 1, .int 0, .ref l0_jurorName, .ref l0_floorName, .ref l0_caseName, .ref l0_pitch, .ref l0_length, .ref l0_hands, .ref l0_tune, .ref l0_dull, .ref l0_caseFloor, .ref l0_tuned])), (aJ ca o0 1 f_o0)] (oQi D (fun (r : Int32) (u : Unit) => r = 1) (fun (u : Unit) => [])) 1 6 := by
  refine sMW (cc := cL_juror) (maxL := 5) (ret := (some .int)) (by decide) rfl (Nat.le_of_ble_eq_true rfl) [(0, .ref h0), (1, .int j0), (2, .int j1), (3, .ref o0)] rfl ?_
  intro p e s m below meth c A H locs ls hx hb hr hml hts hown hlocks hin hK hP hD hA hS hl hZ htab
  have hown : s.vm.findClass RL = some m.cls := hown
  have k1 := hts (.classLink RL 13 nse) (by decide +kernel)
  refine lv_aload_n hx hb dL_juror_0 rfl (lv_at hl 3 rfl) ?_
  refine lv_iconst (v := 0) hx hb dL_juror_1 (by decide) ?_
  refine lv_aload_n hx hb dL_juror_2 rfl (lv_at hl 0 rfl) ?_
  refine lv_iload_n hx hb dL_juror_3 rfl (lv_at hl 1 rfl) ?_
  refine lv_iload_n hx hb dL_juror_4 rfl (lv_at hl 2 rfl) ?_
  have hFc := va_free (wc := [(h0, .inr (10, [.ref t0, .ref l0, .ref s0, .ref y0, .ref c0, .ref b0, .ref e0, .ref n0, .ref w0, .ref i0, .ref g0, .ref a0, .ref k0, .ref z0, .int 0])), (l0, .inr (5, [.int 0, .int 0, .int 0, .int 3, .int 1, .int 0, .ref l0_jurorName, .ref l0_floorName, .ref l0_caseName, .ref l0_pitch, .ref l0_length, .ref l0_hands, .ref l0_tune, .ref l0_dull, .ref l0_caseFloor, .ref l0_tuned]))]) hD hS hA [0, 1] rfl
  refine vx_calli (vx_runV (As := [.int j0, .int j1]) (rest := [.int 0, .ref o0]) ⟨hx, hb, hml, hown, hts⟩ (x_juror l hl0 D ca ad wt H.size h0 j0 j1 t0 l0 s0 y0 c0 b0 e0 n0 w0 i0 g0 a0 k0 z0 l0_jurorName l0_floorName l0_caseName l0_pitch l0_length l0_hands l0_tune l0_dull l0_caseFloor l0_tuned) (cwV 2 hts gL_juror_X11_juror rfl rfl rfl (by decide +kernel) ⟨Nat.le_of_ble_eq_true rfl, Nat.le_of_ble_eq_true rfl⟩) (sPV (C := RX11) hZ hS hA hK hP hD [0, 1] rfl (by decide) 0 rfl (ci := 10) rfl rfl) rfl rfl hl.1 rfl (lv_room (Nat.le_of_ble_eq_true rfl)) dL_juror_5 ⟨Nat.le_of_ble_eq_true rfl, Nat.le_of_ble_eq_true rfl⟩) hS (fun q _ h => hFc q h) hFc (fun q _ h => hFc q h) (fun E ce q9 u t H locs ht hvm hpx hBX hz hk hS hcell hv hcl => ?_) (fun r u t H locs ht hvm hpost => hpost.elim)
  have hE : E = nse := hBX
  subst hE
  refine vx_catch (own := RL) (name := nse) hown [] ({ startPc := 0, endPc := 10, handlerPc := 13, catchType := 13 } : ExceptionTableEntry) [] (htab.trans rfl) (fun z hz => by cases hz) (by decide) (by decide) k1 (va_Nw.use rfl hZ.2.2.2.2.2.2.2.1) hcell hv hcl ?_
  refine lv_astore (lv' := [(4, .ref q9), (0, .ref h0), (1, .int j0), (2, .int j1), (3, .ref o0)]) hx hb dL_juror_13 hl (by decide) rfl (fun ls hl => ?_)
  refine lv_iconst (v := 1) hx hb dL_juror_15 (by decide) ?_
  exact oE_i hx hb hr rfl hlocks (Wa := []) oP0 oD0 hS () [] rfl (by decide) rfl (Nat.le_of_ble_eq_true rfl) (Nat.le_of_ble_eq_true rfl) dL_juror_16
theorem dL_trial_0 : decode cL_trial 0 = .ok (.aload_n 3, 1) := by decide +kernel
theorem dL_trial_1 : decode cL_trial 1 = .ok (.iconst 0, 1) := by decide +kernel
theorem dL_trial_2 : decode cL_trial 2 = .ok (.aload_n 0, 1) := by decide +kernel
theorem dL_trial_3 : decode cL_trial 3 = .ok (.iload_n 1, 1) := by decide +kernel
theorem dL_trial_4 : decode cL_trial 4 = .ok (.iload_n 2, 1) := by decide +kernel
theorem dL_trial_5 : decode cL_trial 5 = .ok (.invokevirtual 15, 3) := by decide +kernel
theorem dL_trial_13 : decode cL_trial 13 = .ok (.astore 4, 2) := by decide +kernel
theorem dL_trial_15 : decode cL_trial 15 = .ok (.iconst 1, 1) := by decide +kernel
theorem dL_trial_16 : decode cL_trial 16 = .ok (.ireturn, 1) := by decide +kernel
set_option maxRecDepth 20000 in
theorem ggL_trial_X11_trial : GoodIn wsL_trial wsX11_trial := goodIn_ca (goodIn_r _ [6, 7, 8, 9, 10, 11, 12, 13, 14, 15, 16, 17, 18, 5, 19, 20, 21, 22, 23, 24, 25, 26, 27, 28, 29, 30, 31, 32, 33, 34, 35, 36, 37, 38, 39, 40, 41, 42, 43, 44, 45, 46, 47, 48, 49, 50, 51, 52, 53, 54, 55, 56, 57, 58, 59, 60, 61, 62] rfl (by decide +kernel)) (goodIn_sub (fun _ h => List.mem_cons_of_mem _ (List.mem_append_right _ h)) (by decide +kernel))
set_option maxRecDepth 20000 in
theorem gL_trial_X11_trial : GoodIn wsL_trial (wsV RL 15 RX11 yX11_trial wsX11_trial) := goodIn_app (goodIn_of _ (by decide +kernel)) ggL_trial_X11_trial
set_option maxHeartbeats 4000000 in
set_option maxRecDepth 100000 in
theorem w_trial (l : Launch) (hl0 : l.stackTraces = false) (D : va_G) (ca : Nat → ClassId) (ad : Nat → Nat) (wt : Nat) (sz : Nat) (h0 : Nat) (j0 : Int32) (j1 : Int32) (o0 : Nat) (t0 : Nat) (l0 : Nat) (s0 : Nat) (y0 : Nat) (c0 : Nat) (b0 : Nat) (e0 : Nat) (n0 : Nat) (w0 : Nat) (i0 : Nat) (g0 : Nat) (a0 : Nat) (k0 : Nat) (z0 : Nat) (l0_jurorName : Nat) (l0_floorName : Nat) (l0_caseName : Nat) (l0_pitch : Nat) (l0_length : Nat) (l0_hands : Nat) (l0_tune : Nat) (l0_dull : Nat) (l0_caseFloor : Nat) (l0_tuned : Nat) (f_o0 : Nat → Int64) : sMet l yL_trial wsL_trial ({ frames := 7, cells := 1, slots := 6, locals := 103 } : Room) [.ref h0, .int j0, .int j1, .ref o0] D ca ad wt sz [(h0, .inr (10, [.ref t0, .ref l0, .ref s0, .ref y0, .ref c0, .ref b0, .ref e0, .ref n0, .ref w0, .ref i0, .ref g0, .ref a0, .ref k0, .ref z0, .int 0])), (l0, .inr (5, [.int 0, .int 0, .int 0, .int 3, .int 1, .int 0, .ref l0_jurorName, .ref l0_floorName, .ref l0_caseName, .ref l0_pitch, .ref l0_length, .ref l0_hands, .ref l0_tune, .ref l0_dull, .ref l0_caseFloor, .ref l0_tuned])), (aJ ca o0 1 f_o0)] (oQi D (fun (r : Int32) (u : Unit) => r = 1) (fun (u : Unit) => [])) 1 6 := by
  refine sMW (cc := cL_trial) (maxL := 5) (ret := (some .int)) (by decide) rfl (Nat.le_of_ble_eq_true rfl) [(0, .ref h0), (1, .int j0), (2, .int j1), (3, .ref o0)] rfl ?_
  intro p e s m below meth c A H locs ls hx hb hr hml hts hown hlocks hin hK hP hD hA hS hl hZ htab
  have hown : s.vm.findClass RL = some m.cls := hown
  have k1 := hts (.classLink RL 13 nse) (by decide +kernel)
  refine lv_aload_n hx hb dL_trial_0 rfl (lv_at hl 3 rfl) ?_
  refine lv_iconst (v := 0) hx hb dL_trial_1 (by decide) ?_
  refine lv_aload_n hx hb dL_trial_2 rfl (lv_at hl 0 rfl) ?_
  refine lv_iload_n hx hb dL_trial_3 rfl (lv_at hl 1 rfl) ?_
  refine lv_iload_n hx hb dL_trial_4 rfl (lv_at hl 2 rfl) ?_
  have hFc := va_free (wc := [(h0, .inr (10, [.ref t0, .ref l0, .ref s0, .ref y0, .ref c0, .ref b0, .ref e0, .ref n0, .ref w0, .ref i0, .ref g0, .ref a0, .ref k0, .ref z0, .int 0])), (l0, .inr (5, [.int 0, .int 0, .int 0, .int 3, .int 1, .int 0, .ref l0_jurorName, .ref l0_floorName, .ref l0_caseName, .ref l0_pitch, .ref l0_length, .ref l0_hands, .ref l0_tune, .ref l0_dull, .ref l0_caseFloor, .ref l0_tuned]))]) hD hS hA [0, 1] rfl
  refine vx_calli (vx_runV (As := [.int j0, .int j1]) (rest := [.int 0, .ref o0]) ⟨hx, hb, hml, hown, hts⟩ (x_trial l hl0 D ca ad wt H.size h0 j0 j1 t0 l0 s0 y0 c0 b0 e0 n0 w0 i0 g0 a0 k0 z0 l0_jurorName l0_floorName l0_caseName l0_pitch l0_length l0_hands l0_tune l0_dull l0_caseFloor l0_tuned) (cwV 2 hts gL_trial_X11_trial rfl rfl rfl (by decide +kernel) ⟨Nat.le_of_ble_eq_true rfl, Nat.le_of_ble_eq_true rfl⟩) (sPV (C := RX11) hZ hS hA hK hP hD [0, 1] rfl (by decide) 0 rfl (ci := 10) rfl rfl) rfl rfl hl.1 rfl (lv_room (Nat.le_of_ble_eq_true rfl)) dL_trial_5 ⟨Nat.le_of_ble_eq_true rfl, Nat.le_of_ble_eq_true rfl⟩) hS (fun q _ h => hFc q h) hFc (fun q _ h => hFc q h) (fun E ce q9 u t H locs ht hvm hpx hBX hz hk hS hcell hv hcl => ?_) (fun r u t H locs ht hvm hpost => hpost.elim)
  have hE : E = nse := hBX
  subst hE
  refine vx_catch (own := RL) (name := nse) hown [] ({ startPc := 0, endPc := 10, handlerPc := 13, catchType := 13 } : ExceptionTableEntry) [] (htab.trans rfl) (fun z hz => by cases hz) (by decide) (by decide) k1 (va_Nw.use rfl hZ.2.2.2.2.2.2.2.1) hcell hv hcl ?_
  refine lv_astore (lv' := [(4, .ref q9), (0, .ref h0), (1, .int j0), (2, .int j1), (3, .ref o0)]) hx hb dL_trial_13 hl (by decide) rfl (fun ls hl => ?_)
  refine lv_iconst (v := 1) hx hb dL_trial_15 (by decide) ?_
  exact oE_i hx hb hr rfl hlocks (Wa := []) oP0 oD0 hS () [] rfl (by decide) rfl (Nat.le_of_ble_eq_true rfl) (Nat.le_of_ble_eq_true rfl) dL_trial_16
theorem dL_likely_0 : decode cL_likely 0 = .ok (.aload_n 3, 1) := by decide +kernel
theorem dL_likely_1 : decode cL_likely 1 = .ok (.iconst 0, 1) := by decide +kernel
theorem dL_likely_2 : decode cL_likely 2 = .ok (.aload_n 0, 1) := by decide +kernel
theorem dL_likely_3 : decode cL_likely 3 = .ok (.iload_n 1, 1) := by decide +kernel
theorem dL_likely_4 : decode cL_likely 4 = .ok (.iload_n 2, 1) := by decide +kernel
theorem dL_likely_5 : decode cL_likely 5 = .ok (.invokevirtual 18, 3) := by decide +kernel
theorem dL_likely_12 : decode cL_likely 12 = .ok (.astore 4, 2) := by decide +kernel
theorem dL_likely_14 : decode cL_likely 14 = .ok (.iconst 1, 1) := by decide +kernel
theorem dL_likely_15 : decode cL_likely 15 = .ok (.ireturn, 1) := by decide +kernel
set_option maxRecDepth 20000 in
theorem ggL_likely_X11_likely : GoodIn wsL_likely wsX11_likely := goodIn_ca (goodIn_r _ [6, 7, 8, 9, 10, 11, 12, 13, 14, 15, 16, 17, 5, 18, 19, 20, 21, 22, 23, 24, 25, 26, 27, 28, 29, 30, 31, 32, 33, 34, 35, 36, 37, 38, 39, 40, 41, 42, 43, 44, 45, 46, 47, 48, 49, 50, 51, 52, 53, 54, 55, 56, 57, 58, 59, 60, 61, 62, 63, 64, 65, 66, 67, 68, 69, 70, 71, 72, 73, 74, 75, 76, 77, 78, 79, 80, 81, 82, 83, 84, 85, 86, 87, 88, 89, 90, 91, 92, 93, 94, 95, 96, 97, 98, 99, 100, 101, 102, 103, 104, 105, 106, 107, 108, 109, 110, 111, 112, 113, 114, 115, 116, 117, 118, 119, 120, 121, 122, 123, 124, 125, 126, 127, 128, 129, 130, 131, 132] rfl (by decide +kernel)) (goodIn_sub (fun _ h => List.mem_cons_of_mem _ (List.mem_append_right _ h)) (by decide +kernel))
set_option maxRecDepth 20000 in
theorem gL_likely_X11_likely : GoodIn wsL_likely (wsV RL 18 RX11 yX11_likely wsX11_likely) := goodIn_app (goodIn_of _ (by decide +kernel)) ggL_likely_X11_likely
set_option maxHeartbeats 4000000 in
set_option maxRecDepth 100000 in
theorem w_likely (l : Launch) (hl0 : l.stackTraces = false) (D : va_G) (ca : Nat → ClassId) (ad : Nat → Nat) (wt : Nat) (sz : Nat) (h0 : Nat) (j0 : Int32) (j1 : Int32) (o0 : Nat) (t0 : Nat) (l0 : Nat) (s0 : Nat) (y0 : Nat) (c0 : Nat) (b0 : Nat) (e0 : Nat) (n0 : Nat) (w0 : Nat) (i0 : Nat) (g0 : Nat) (a0 : Nat) (k0 : Nat) (z0 : Nat) (l0_jurorName : Nat) (l0_floorName : Nat) (l0_caseName : Nat) (l0_pitch : Nat) (l0_length : Nat) (l0_hands : Nat) (l0_tune : Nat) (l0_dull : Nat) (l0_caseFloor : Nat) (l0_tuned : Nat) (f_o0 : Nat → Int64) : sMet l yL_likely wsL_likely ({ frames := 7, cells := 1, slots := 6, locals := 103 } : Room) [.ref h0, .int j0, .int j1, .ref o0] D ca ad wt sz [(h0, .inr (10, [.ref t0, .ref l0, .ref s0, .ref y0, .ref c0, .ref b0, .ref e0, .ref n0, .ref w0, .ref i0, .ref g0, .ref a0, .ref k0, .ref z0, .int 0])), (l0, .inr (5, [.int 0, .int 0, .int 0, .int 3, .int 1, .int 0, .ref l0_jurorName, .ref l0_floorName, .ref l0_caseName, .ref l0_pitch, .ref l0_length, .ref l0_hands, .ref l0_tune, .ref l0_dull, .ref l0_caseFloor, .ref l0_tuned])), (aJ ca o0 1 f_o0)] (oQi D (fun (r : Int32) (u : Unit) => r = 1) (fun (u : Unit) => [])) 1 6 := by
  refine sMW (cc := cL_likely) (maxL := 5) (ret := (some .int)) (by decide) rfl (Nat.le_of_ble_eq_true rfl) [(0, .ref h0), (1, .int j0), (2, .int j1), (3, .ref o0)] rfl ?_
  intro p e s m below meth c A H locs ls hx hb hr hml hts hown hlocks hin hK hP hD hA hS hl hZ htab
  have hown : s.vm.findClass RL = some m.cls := hown
  have k1 := hts (.classLink RL 13 nse) (by decide +kernel)
  refine lv_aload_n hx hb dL_likely_0 rfl (lv_at hl 3 rfl) ?_
  refine lv_iconst (v := 0) hx hb dL_likely_1 (by decide) ?_
  refine lv_aload_n hx hb dL_likely_2 rfl (lv_at hl 0 rfl) ?_
  refine lv_iload_n hx hb dL_likely_3 rfl (lv_at hl 1 rfl) ?_
  refine lv_iload_n hx hb dL_likely_4 rfl (lv_at hl 2 rfl) ?_
  have hFc := va_free (wc := [(h0, .inr (10, [.ref t0, .ref l0, .ref s0, .ref y0, .ref c0, .ref b0, .ref e0, .ref n0, .ref w0, .ref i0, .ref g0, .ref a0, .ref k0, .ref z0, .int 0])), (l0, .inr (5, [.int 0, .int 0, .int 0, .int 3, .int 1, .int 0, .ref l0_jurorName, .ref l0_floorName, .ref l0_caseName, .ref l0_pitch, .ref l0_length, .ref l0_hands, .ref l0_tune, .ref l0_dull, .ref l0_caseFloor, .ref l0_tuned]))]) hD hS hA [0, 1] rfl
  refine vx_calll (vx_runV (As := [.int j0, .int j1]) (rest := [.int 0, .ref o0]) ⟨hx, hb, hml, hown, hts⟩ (x_likely l hl0 D ca ad wt H.size h0 j0 j1 t0 l0 s0 y0 c0 b0 e0 n0 w0 i0 g0 a0 k0 z0 l0_jurorName l0_floorName l0_caseName l0_pitch l0_length l0_hands l0_tune l0_dull l0_caseFloor l0_tuned) (cwV 2 hts gL_likely_X11_likely rfl rfl rfl (by decide +kernel) ⟨Nat.le_of_ble_eq_true rfl, Nat.le_of_ble_eq_true rfl⟩) (sPV (C := RX11) hZ hS hA hK hP hD [0, 1] rfl (by decide) 0 rfl (ci := 10) rfl rfl) rfl rfl hl.1 rfl (lv_room (Nat.le_of_ble_eq_true rfl)) dL_likely_5 ⟨Nat.le_of_ble_eq_true rfl, Nat.le_of_ble_eq_true rfl⟩) hS (fun q _ h => hFc q h) hFc (fun q _ h => hFc q h) (fun E ce q9 u t H locs ht hvm hpx hBX hz hk hS hcell hv hcl => ?_) (fun r u t H locs ht hvm hpost => hpost.elim)
  have hE : E = nse := hBX
  subst hE
  refine vx_catch (own := RL) (name := nse) hown [] ({ startPc := 0, endPc := 9, handlerPc := 12, catchType := 13 } : ExceptionTableEntry) [] (htab.trans rfl) (fun z hz => by cases hz) (by decide) (by decide) k1 (va_Nw.use rfl hZ.2.2.2.2.2.2.2.1) hcell hv hcl ?_
  refine lv_astore (lv' := [(4, .ref q9), (0, .ref h0), (1, .int j0), (2, .int j1), (3, .ref o0)]) hx hb dL_likely_12 hl (by decide) rfl (fun ls hl => ?_)
  refine lv_iconst (v := 1) hx hb dL_likely_14 (by decide) ?_
  exact oE_i hx hb hr rfl hlocks (Wa := []) oP0 oD0 hS () [] rfl (by decide) rfl (Nat.le_of_ble_eq_true rfl) (Nat.le_of_ble_eq_true rfl) dL_likely_15
theorem dL_panel_0 : decode cL_panel 0 = .ok (.aload 4, 2) := by decide +kernel
theorem dL_panel_2 : decode cL_panel 2 = .ok (.iconst 0, 1) := by decide +kernel
theorem dL_panel_3 : decode cL_panel 3 = .ok (.aload_n 0, 1) := by decide +kernel
theorem dL_panel_4 : decode cL_panel 4 = .ok (.iload_n 1, 1) := by decide +kernel
theorem dL_panel_5 : decode cL_panel 5 = .ok (.iload_n 2, 1) := by decide +kernel
theorem dL_panel_6 : decode cL_panel 6 = .ok (.iload_n 3, 1) := by decide +kernel
theorem dL_panel_7 : decode cL_panel 7 = .ok (.invokevirtual 22, 3) := by decide +kernel
theorem dL_panel_14 : decode cL_panel 14 = .ok (.astore 5, 2) := by decide +kernel
theorem dL_panel_16 : decode cL_panel 16 = .ok (.iconst 1, 1) := by decide +kernel
theorem dL_panel_17 : decode cL_panel 17 = .ok (.ireturn, 1) := by decide +kernel
set_option maxRecDepth 20000 in
theorem ggL_panel_X11_panel : GoodIn wsL_panel wsX11_panel := goodIn_ca (goodIn_r _ [6, 7, 8, 9, 10, 11, 12, 13, 14, 15, 16, 17, 18, 5, 19, 20, 21, 22, 23, 24, 25, 26, 27, 28, 29, 30, 31, 32, 33, 34, 35, 36, 37, 38, 39, 40, 41, 42, 43, 44, 45, 46, 47, 48, 49, 50, 51, 52, 53, 54, 55, 56, 57, 58, 59, 60, 61, 62, 63, 64, 65, 66, 67, 68, 69, 70, 71, 72, 73, 74, 75, 76, 77, 78, 79, 80, 81, 82, 83, 84, 85, 86, 87, 88, 89, 90, 91, 92, 93, 94, 95, 96, 97, 98, 99, 100, 101, 102, 103, 104, 105, 106, 107, 108, 109, 110, 111, 112, 113, 114, 115, 116, 117, 118, 119, 120, 121, 122, 123, 124, 125, 126, 127, 128, 129, 130, 131, 132, 133, 134, 135, 136, 137, 138, 139] rfl (by decide +kernel)) (goodIn_sub (fun _ h => List.mem_cons_of_mem _ (List.mem_append_right _ h)) (by decide +kernel))
set_option maxRecDepth 20000 in
theorem gL_panel_X11_panel : GoodIn wsL_panel (wsV RL 22 RX11 yX11_panel wsX11_panel) := goodIn_app (goodIn_of _ (by decide +kernel)) ggL_panel_X11_panel
set_option maxHeartbeats 4000000 in
set_option maxRecDepth 100000 in
theorem w_panel (l : Launch) (hl0 : l.stackTraces = false) (D : va_G) (ca : Nat → ClassId) (ad : Nat → Nat) (wt : Nat) (sz : Nat) (h0 : Nat) (j0 : Int32) (j1 : Int32) (j2 : Int32) (o0 : Nat) (t0 : Nat) (l0 : Nat) (s0 : Nat) (y0 : Nat) (c0 : Nat) (b0 : Nat) (e0 : Nat) (n0 : Nat) (w0 : Nat) (i0 : Nat) (g0 : Nat) (a0 : Nat) (k0 : Nat) (z0 : Nat) (l0_jurorName : Nat) (l0_floorName : Nat) (l0_caseName : Nat) (l0_pitch : Nat) (l0_length : Nat) (l0_hands : Nat) (l0_tune : Nat) (l0_dull : Nat) (l0_caseFloor : Nat) (l0_tuned : Nat) (f_o0 : Nat → Int64) : sMet l yL_panel wsL_panel ({ frames := 7, cells := 1, slots := 6, locals := 104 } : Room) [.ref h0, .int j0, .int j1, .int j2, .ref o0] D ca ad wt sz [(h0, .inr (10, [.ref t0, .ref l0, .ref s0, .ref y0, .ref c0, .ref b0, .ref e0, .ref n0, .ref w0, .ref i0, .ref g0, .ref a0, .ref k0, .ref z0, .int 0])), (l0, .inr (5, [.int 0, .int 0, .int 0, .int 3, .int 1, .int 0, .ref l0_jurorName, .ref l0_floorName, .ref l0_caseName, .ref l0_pitch, .ref l0_length, .ref l0_hands, .ref l0_tune, .ref l0_dull, .ref l0_caseFloor, .ref l0_tuned])), (aJ ca o0 1 f_o0)] (oQi D (fun (r : Int32) (u : Unit) => r = 1) (fun (u : Unit) => [])) 1 6 := by
  refine sMW (cc := cL_panel) (maxL := 6) (ret := (some .int)) (by decide) rfl (Nat.le_of_ble_eq_true rfl) [(0, .ref h0), (1, .int j0), (2, .int j1), (3, .int j2), (4, .ref o0)] rfl ?_
  intro p e s m below meth c A H locs ls hx hb hr hml hts hown hlocks hin hK hP hD hA hS hl hZ htab
  have hown : s.vm.findClass RL = some m.cls := hown
  have k1 := hts (.classLink RL 13 nse) (by decide +kernel)
  refine lv_aload hx hb dL_panel_0 (lv_at hl 4 rfl) ?_
  refine lv_iconst (v := 0) hx hb dL_panel_2 (by decide) ?_
  refine lv_aload_n hx hb dL_panel_3 rfl (lv_at hl 0 rfl) ?_
  refine lv_iload_n hx hb dL_panel_4 rfl (lv_at hl 1 rfl) ?_
  refine lv_iload_n hx hb dL_panel_5 rfl (lv_at hl 2 rfl) ?_
  refine lv_iload_n hx hb dL_panel_6 rfl (lv_at hl 3 rfl) ?_
  have hFc := va_free (wc := [(h0, .inr (10, [.ref t0, .ref l0, .ref s0, .ref y0, .ref c0, .ref b0, .ref e0, .ref n0, .ref w0, .ref i0, .ref g0, .ref a0, .ref k0, .ref z0, .int 0])), (l0, .inr (5, [.int 0, .int 0, .int 0, .int 3, .int 1, .int 0, .ref l0_jurorName, .ref l0_floorName, .ref l0_caseName, .ref l0_pitch, .ref l0_length, .ref l0_hands, .ref l0_tune, .ref l0_dull, .ref l0_caseFloor, .ref l0_tuned]))]) hD hS hA [0, 1] rfl
  refine vx_calll (vx_runV (As := [.int j0, .int j1, .int j2]) (rest := [.int 0, .ref o0]) ⟨hx, hb, hml, hown, hts⟩ (x_panel l hl0 D ca ad wt H.size h0 j0 j1 j2 t0 l0 s0 y0 c0 b0 e0 n0 w0 i0 g0 a0 k0 z0 l0_jurorName l0_floorName l0_caseName l0_pitch l0_length l0_hands l0_tune l0_dull l0_caseFloor l0_tuned) (cwV 3 hts gL_panel_X11_panel rfl rfl rfl (by decide +kernel) ⟨Nat.le_of_ble_eq_true rfl, Nat.le_of_ble_eq_true rfl⟩) (sPV (C := RX11) hZ hS hA hK hP hD [0, 1] rfl (by decide) 0 rfl (ci := 10) rfl rfl) rfl rfl hl.1 rfl (lv_room (Nat.le_of_ble_eq_true rfl)) dL_panel_7 ⟨Nat.le_of_ble_eq_true rfl, Nat.le_of_ble_eq_true rfl⟩) hS (fun q _ h => hFc q h) hFc (fun q _ h => hFc q h) (fun E ce q9 u t H locs ht hvm hpx hBX hz hk hS hcell hv hcl => ?_) (fun r u t H locs ht hvm hpost => hpost.elim)
  have hE : E = nse := hBX
  subst hE
  refine vx_catch (own := RL) (name := nse) hown [] ({ startPc := 0, endPc := 11, handlerPc := 14, catchType := 13 } : ExceptionTableEntry) [] (htab.trans rfl) (fun z hz => by cases hz) (by decide) (by decide) k1 (va_Nw.use rfl hZ.2.2.2.2.2.2.2.1) hcell hv hcl ?_
  refine lv_astore (lv' := [(5, .ref q9), (0, .ref h0), (1, .int j0), (2, .int j1), (3, .int j2), (4, .ref o0)]) hx hb dL_panel_14 hl (by decide) rfl (fun ls hl => ?_)
  refine lv_iconst (v := 1) hx hb dL_panel_16 (by decide) ?_
  exact oE_i hx hb hr rfl hlocks (Wa := []) oP0 oD0 hS () [] rfl (by decide) rfl (Nat.le_of_ble_eq_true rfl) (Nat.le_of_ble_eq_true rfl) dL_panel_17
