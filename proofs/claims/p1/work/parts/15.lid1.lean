theorem dX11_isJuror_0 : decode cX11_isJuror 0 = .ok (.iload_n 1, 1) := by decide +kernel
theorem dX11_isJuror_1 : decode cX11_isJuror 1 = .ok (.ifCond .lt 18, 3) := by decide +kernel
theorem dX11_isJuror_4 : decode cX11_isJuror 4 = .ok (.iload_n 1, 1) := by decide +kernel
theorem dX11_isJuror_5 : decode cX11_isJuror 5 = .ok (.aload_n 0, 1) := by decide +kernel
theorem dX11_isJuror_6 : decode cX11_isJuror 6 = .ok (.getfield 19, 3) := by decide +kernel
theorem dX11_isJuror_9 : decode cX11_isJuror 9 = .ok (.getfield 240, 3) := by decide +kernel
theorem dX11_isJuror_12 : decode cX11_isJuror 12 = .ok (.if_icmp .ge 7, 3) := by decide +kernel
theorem dX11_isJuror_19 : decode cX11_isJuror 19 = .ok (.iconst 0, 1) := by decide +kernel
theorem dX11_isJuror_20 : decode cX11_isJuror 20 = .ok (.ireturn, 1) := by decide +kernel
set_option maxHeartbeats 4000000 in
set_option maxRecDepth 100000 in
theorem c_isJuror (l : Launch) (D : va_G) (ca : Nat → ClassId) (sz : Nat) (h0 : Nat) (j0 : Int32) (t0 : Nat) (l0 : Nat) (s0 : Nat) (y0 : Nat) (c0 : Nat) (b0 : Nat) (e0 : Nat) (n0 : Nat) (w0 : Nat) (i0 : Nat) (g0 : Nat) (a0 : Nat) (k0 : Nat) (z0 : Nat) (l0_jurorName : Nat) (l0_floorName : Nat) (l0_caseName : Nat) (l0_pitch : Nat) (l0_length : Nat) (l0_hands : Nat) (l0_tune : Nat) (l0_dull : Nat) (l0_caseFloor : Nat) (l0_tuned : Nat)  : oMet l yX11_isJuror wsX11_isJuror ({ frames := 0, cells := 0, slots := 0, locals := 0 } : Room) [.ref h0, .int j0] D ca sz [(h0, .inr (10, [.ref t0, .ref l0, .ref s0, .ref y0, .ref c0, .ref b0, .ref e0, .ref n0, .ref w0, .ref i0, .ref g0, .ref a0, .ref k0, .ref z0, .int 0])), (l0, .inr (5, [.int 0, .int 0, .int 0, .int 3, .int 1, .int 0, .ref l0_jurorName, .ref l0_floorName, .ref l0_caseName, .ref l0_pitch, .ref l0_length, .ref l0_hands, .ref l0_tune, .ref l0_dull, .ref l0_caseFloor, .ref l0_tuned]))] (oQi D (fun (r : Int32) (u : Unit) => r = 0) (fun (u : Unit) => [(h0, .inr (10, [.ref t0, .ref l0, .ref s0, .ref y0, .ref c0, .ref b0, .ref e0, .ref n0, .ref w0, .ref i0, .ref g0, .ref a0, .ref k0, .ref z0, .int 0])), (l0, .inr (5, [.int 0, .int 0, .int 0, .int 3, .int 1, .int 0, .ref l0_jurorName, .ref l0_floorName, .ref l0_caseName, .ref l0_pitch, .ref l0_length, .ref l0_hands, .ref l0_tune, .ref l0_dull, .ref l0_caseFloor, .ref l0_tuned]))])) 0 0 := by
  refine oM (cc := cX11_isJuror) (maxL := 2) (ret := (some .boolean)) (by decide) rfl (Nat.le_of_ble_eq_true rfl) [(0, .ref h0), (1, .int j0)] rfl ?_
  intro p e s m below meth c A H locs ls hx hb hr hml hts hown hlocks hin hK hP hD hA hS hl
  have hown : s.vm.findClass RX11 = some m.cls := hown
  have k1 := hts (.fieldLink RX11 19 "LidCourt" "law" "LLidCourt$Law;") (by decide +kernel)
  have k2 : ∀ w ∈ wsX110, w ∈ wsX11_isJuror := fun _ h => List.mem_cons_of_mem _ (List.mem_append_left _ (List.mem_append_right _ h))
  have k3 := hts (.fieldLink RX11 240 "LidCourt$Law" "jurors" "I") (by decide +kernel)
  have k4 : ∀ w ∈ wsX50, w ∈ wsX11_isJuror := fun _ h => List.mem_cons_of_mem _ (List.mem_append_right _ h)
  refine lv_iload_n hx hb dX11_isJuror_0 rfl (lv_at hl 1 rfl) ?_
  refine lv_if_lt (tgt := 19) hx hb dX11_isJuror_1 (by decide) (fun c_1 => ?_) (fun c_1 => ?_)
  · skip
    refine lv_iconst (v := 0) hx hb dX11_isJuror_19 (by decide) ?_
    exact oE_i hx hb hr (by decide) hlocks hP hD hS () [0, 1] rfl (by decide) rfl (Nat.le_of_ble_eq_true rfl) (Nat.le_of_ble_eq_true rfl) dX11_isJuror_20
  · skip
    refine lv_iload_n hx hb dX11_isJuror_4 rfl (lv_at hl 1 rfl) ?_
    refine lv_aload_n hx hb dX11_isJuror_5 rfl (lv_at hl 0 rfl) ?_
    refine va_get (D := D) (ci := 10) (v := .ref l0) (C := RX11) (T := TX11) (N := 15) hx hb hts k2 hown hK.1 hP 0 rfl rfl 1 (by decide) k1 (fun _ h9 => h9) rfl dX11_isJuror_6 ?_
    refine va_get (D := D) (ci := 5) (v := .int 0) (C := RX5) (T := TX5) (N := 16) hx hb hts k4 hown hK.1 hP 1 rfl rfl 0 (by decide) k3 (fun _ h9 => h9) rfl dX11_isJuror_9 ?_
    refine lv_icmp_ge (tgt := 19) hx hb dX11_isJuror_12 (by decide) (fun _ => ?_) (fun c => absurd (by have a0 := c_1; have z0 : (0 : Int32).toInt = 0 := (by decide); simp only [Int32.lt_iff_toInt_lt, Int32.le_iff_toInt_le, ← Int32.toInt_inj, z0] at a0 ⊢; omega) c)
    refine lv_iconst (v := 0) hx hb dX11_isJuror_19 (by decide) ?_
    exact oE_i hx hb hr (by decide) hlocks hP hD hS () [0, 1] rfl (by decide) rfl (Nat.le_of_ble_eq_true rfl) (Nat.le_of_ble_eq_true rfl) dX11_isJuror_20
theorem dX11_isFloor_0 : decode cX11_isFloor 0 = .ok (.iload_n 1, 1) := by decide +kernel
theorem dX11_isFloor_1 : decode cX11_isFloor 1 = .ok (.ifCond .lt 18, 3) := by decide +kernel
theorem dX11_isFloor_4 : decode cX11_isFloor 4 = .ok (.iload_n 1, 1) := by decide +kernel
theorem dX11_isFloor_5 : decode cX11_isFloor 5 = .ok (.aload_n 0, 1) := by decide +kernel
theorem dX11_isFloor_6 : decode cX11_isFloor 6 = .ok (.getfield 19, 3) := by decide +kernel
theorem dX11_isFloor_9 : decode cX11_isFloor 9 = .ok (.getfield 372, 3) := by decide +kernel
theorem dX11_isFloor_12 : decode cX11_isFloor 12 = .ok (.if_icmp .ge 7, 3) := by decide +kernel
theorem dX11_isFloor_19 : decode cX11_isFloor 19 = .ok (.iconst 0, 1) := by decide +kernel
theorem dX11_isFloor_20 : decode cX11_isFloor 20 = .ok (.ireturn, 1) := by decide +kernel
set_option maxHeartbeats 4000000 in
set_option maxRecDepth 100000 in
theorem c_isFloor (l : Launch) (D : va_G) (ca : Nat → ClassId) (sz : Nat) (h0 : Nat) (j0 : Int32) (t0 : Nat) (l0 : Nat) (s0 : Nat) (y0 : Nat) (c0 : Nat) (b0 : Nat) (e0 : Nat) (n0 : Nat) (w0 : Nat) (i0 : Nat) (g0 : Nat) (a0 : Nat) (k0 : Nat) (z0 : Nat) (l0_jurorName : Nat) (l0_floorName : Nat) (l0_caseName : Nat) (l0_pitch : Nat) (l0_length : Nat) (l0_hands : Nat) (l0_tune : Nat) (l0_dull : Nat) (l0_caseFloor : Nat) (l0_tuned : Nat)  : oMet l yX11_isFloor wsX11_isFloor ({ frames := 0, cells := 0, slots := 0, locals := 0 } : Room) [.ref h0, .int j0] D ca sz [(h0, .inr (10, [.ref t0, .ref l0, .ref s0, .ref y0, .ref c0, .ref b0, .ref e0, .ref n0, .ref w0, .ref i0, .ref g0, .ref a0, .ref k0, .ref z0, .int 0])), (l0, .inr (5, [.int 0, .int 0, .int 0, .int 3, .int 1, .int 0, .ref l0_jurorName, .ref l0_floorName, .ref l0_caseName, .ref l0_pitch, .ref l0_length, .ref l0_hands, .ref l0_tune, .ref l0_dull, .ref l0_caseFloor, .ref l0_tuned]))] (oQi D (fun (r : Int32) (u : Unit) => r = 0) (fun (u : Unit) => [(h0, .inr (10, [.ref t0, .ref l0, .ref s0, .ref y0, .ref c0, .ref b0, .ref e0, .ref n0, .ref w0, .ref i0, .ref g0, .ref a0, .ref k0, .ref z0, .int 0])), (l0, .inr (5, [.int 0, .int 0, .int 0, .int 3, .int 1, .int 0, .ref l0_jurorName, .ref l0_floorName, .ref l0_caseName, .ref l0_pitch, .ref l0_length, .ref l0_hands, .ref l0_tune, .ref l0_dull, .ref l0_caseFloor, .ref l0_tuned]))])) 0 0 := by
  refine oM (cc := cX11_isFloor) (maxL := 2) (ret := (some .boolean)) (by decide) rfl (Nat.le_of_ble_eq_true rfl) [(0, .ref h0), (1, .int j0)] rfl ?_
  intro p e s m below meth c A H locs ls hx hb hr hml hts hown hlocks hin hK hP hD hA hS hl
  have hown : s.vm.findClass RX11 = some m.cls := hown
  have k1 := hts (.fieldLink RX11 19 "LidCourt" "law" "LLidCourt$Law;") (by decide +kernel)
  have k2 : ∀ w ∈ wsX110, w ∈ wsX11_isFloor := fun _ h => List.mem_cons_of_mem _ (List.mem_append_left _ (List.mem_append_right _ h))
  have k3 := hts (.fieldLink RX11 372 "LidCourt$Law" "floors" "I") (by decide +kernel)
  have k4 : ∀ w ∈ wsX50, w ∈ wsX11_isFloor := fun _ h => List.mem_cons_of_mem _ (List.mem_append_right _ h)
  refine lv_iload_n hx hb dX11_isFloor_0 rfl (lv_at hl 1 rfl) ?_
  refine lv_if_lt (tgt := 19) hx hb dX11_isFloor_1 (by decide) (fun c_1 => ?_) (fun c_1 => ?_)
  · skip
    refine lv_iconst (v := 0) hx hb dX11_isFloor_19 (by decide) ?_
    exact oE_i hx hb hr (by decide) hlocks hP hD hS () [0, 1] rfl (by decide) rfl (Nat.le_of_ble_eq_true rfl) (Nat.le_of_ble_eq_true rfl) dX11_isFloor_20
  · skip
    refine lv_iload_n hx hb dX11_isFloor_4 rfl (lv_at hl 1 rfl) ?_
    refine lv_aload_n hx hb dX11_isFloor_5 rfl (lv_at hl 0 rfl) ?_
    refine va_get (D := D) (ci := 10) (v := .ref l0) (C := RX11) (T := TX11) (N := 15) hx hb hts k2 hown hK.1 hP 0 rfl rfl 1 (by decide) k1 (fun _ h9 => h9) rfl dX11_isFloor_6 ?_
    refine va_get (D := D) (ci := 5) (v := .int 0) (C := RX5) (T := TX5) (N := 16) hx hb hts k4 hown hK.1 hP 1 rfl rfl 1 (by decide) k3 (fun _ h9 => h9) rfl dX11_isFloor_9 ?_
    refine lv_icmp_ge (tgt := 19) hx hb dX11_isFloor_12 (by decide) (fun _ => ?_) (fun c => absurd (by have a0 := c_1; have z0 : (0 : Int32).toInt = 0 := (by decide); simp only [Int32.lt_iff_toInt_lt, Int32.le_iff_toInt_le, ← Int32.toInt_inj, z0] at a0 ⊢; omega) c)
    refine lv_iconst (v := 0) hx hb dX11_isFloor_19 (by decide) ?_
    exact oE_i hx hb hr (by decide) hlocks hP hD hS () [0, 1] rfl (by decide) rfl (Nat.le_of_ble_eq_true rfl) (Nat.le_of_ble_eq_true rfl) dX11_isFloor_20
theorem dX11_isCase_0 : decode cX11_isCase 0 = .ok (.iload_n 1, 1) := by decide +kernel
theorem dX11_isCase_1 : decode cX11_isCase 1 = .ok (.ifCond .lt 18, 3) := by decide +kernel
theorem dX11_isCase_4 : decode cX11_isCase 4 = .ok (.iload_n 1, 1) := by decide +kernel
theorem dX11_isCase_5 : decode cX11_isCase 5 = .ok (.aload_n 0, 1) := by decide +kernel
theorem dX11_isCase_6 : decode cX11_isCase 6 = .ok (.getfield 19, 3) := by decide +kernel
theorem dX11_isCase_9 : decode cX11_isCase 9 = .ok (.getfield 375, 3) := by decide +kernel
theorem dX11_isCase_12 : decode cX11_isCase 12 = .ok (.if_icmp .ge 7, 3) := by decide +kernel
theorem dX11_isCase_19 : decode cX11_isCase 19 = .ok (.iconst 0, 1) := by decide +kernel
theorem dX11_isCase_20 : decode cX11_isCase 20 = .ok (.ireturn, 1) := by decide +kernel
set_option maxHeartbeats 4000000 in
set_option maxRecDepth 100000 in
theorem c_isCase (l : Launch) (D : va_G) (ca : Nat → ClassId) (sz : Nat) (h0 : Nat) (j0 : Int32) (t0 : Nat) (l0 : Nat) (s0 : Nat) (y0 : Nat) (c0 : Nat) (b0 : Nat) (e0 : Nat) (n0 : Nat) (w0 : Nat) (i0 : Nat) (g0 : Nat) (a0 : Nat) (k0 : Nat) (z0 : Nat) (l0_jurorName : Nat) (l0_floorName : Nat) (l0_caseName : Nat) (l0_pitch : Nat) (l0_length : Nat) (l0_hands : Nat) (l0_tune : Nat) (l0_dull : Nat) (l0_caseFloor : Nat) (l0_tuned : Nat)  : oMet l yX11_isCase wsX11_isCase ({ frames := 0, cells := 0, slots := 0, locals := 0 } : Room) [.ref h0, .int j0] D ca sz [(h0, .inr (10, [.ref t0, .ref l0, .ref s0, .ref y0, .ref c0, .ref b0, .ref e0, .ref n0, .ref w0, .ref i0, .ref g0, .ref a0, .ref k0, .ref z0, .int 0])), (l0, .inr (5, [.int 0, .int 0, .int 0, .int 3, .int 1, .int 0, .ref l0_jurorName, .ref l0_floorName, .ref l0_caseName, .ref l0_pitch, .ref l0_length, .ref l0_hands, .ref l0_tune, .ref l0_dull, .ref l0_caseFloor, .ref l0_tuned]))] (oQi D (fun (r : Int32) (u : Unit) => r = 0) (fun (u : Unit) => [(h0, .inr (10, [.ref t0, .ref l0, .ref s0, .ref y0, .ref c0, .ref b0, .ref e0, .ref n0, .ref w0, .ref i0, .ref g0, .ref a0, .ref k0, .ref z0, .int 0])), (l0, .inr (5, [.int 0, .int 0, .int 0, .int 3, .int 1, .int 0, .ref l0_jurorName, .ref l0_floorName, .ref l0_caseName, .ref l0_pitch, .ref l0_length, .ref l0_hands, .ref l0_tune, .ref l0_dull, .ref l0_caseFloor, .ref l0_tuned]))])) 0 0 := by
  refine oM (cc := cX11_isCase) (maxL := 2) (ret := (some .boolean)) (by decide) rfl (Nat.le_of_ble_eq_true rfl) [(0, .ref h0), (1, .int j0)] rfl ?_
  intro p e s m below meth c A H locs ls hx hb hr hml hts hown hlocks hin hK hP hD hA hS hl
  have hown : s.vm.findClass RX11 = some m.cls := hown
  have k1 := hts (.fieldLink RX11 19 "LidCourt" "law" "LLidCourt$Law;") (by decide +kernel)
  have k2 : ∀ w ∈ wsX110, w ∈ wsX11_isCase := fun _ h => List.mem_cons_of_mem _ (List.mem_append_left _ (List.mem_append_right _ h))
  have k3 := hts (.fieldLink RX11 375 "LidCourt$Law" "cases" "I") (by decide +kernel)
  have k4 : ∀ w ∈ wsX50, w ∈ wsX11_isCase := fun _ h => List.mem_cons_of_mem _ (List.mem_append_right _ h)
  refine lv_iload_n hx hb dX11_isCase_0 rfl (lv_at hl 1 rfl) ?_
  refine lv_if_lt (tgt := 19) hx hb dX11_isCase_1 (by decide) (fun c_1 => ?_) (fun c_1 => ?_)
  · skip
    refine lv_iconst (v := 0) hx hb dX11_isCase_19 (by decide) ?_
    exact oE_i hx hb hr (by decide) hlocks hP hD hS () [0, 1] rfl (by decide) rfl (Nat.le_of_ble_eq_true rfl) (Nat.le_of_ble_eq_true rfl) dX11_isCase_20
  · skip
    refine lv_iload_n hx hb dX11_isCase_4 rfl (lv_at hl 1 rfl) ?_
    refine lv_aload_n hx hb dX11_isCase_5 rfl (lv_at hl 0 rfl) ?_
    refine va_get (D := D) (ci := 10) (v := .ref l0) (C := RX11) (T := TX11) (N := 15) hx hb hts k2 hown hK.1 hP 0 rfl rfl 1 (by decide) k1 (fun _ h9 => h9) rfl dX11_isCase_6 ?_
    refine va_get (D := D) (ci := 5) (v := .int 0) (C := RX5) (T := TX5) (N := 16) hx hb hts k4 hown hK.1 hP 1 rfl rfl 2 (by decide) k3 (fun _ h9 => h9) rfl dX11_isCase_9 ?_
    refine lv_icmp_ge (tgt := 19) hx hb dX11_isCase_12 (by decide) (fun _ => ?_) (fun c => absurd (by have a0 := c_1; have z0 : (0 : Int32).toInt = 0 := (by decide); simp only [Int32.lt_iff_toInt_lt, Int32.le_iff_toInt_le, ← Int32.toInt_inj, z0] at a0 ⊢; omega) c)
    refine lv_iconst (v := 0) hx hb dX11_isCase_19 (by decide) ?_
    exact oE_i hx hb hr (by decide) hlocks hP hD hS () [0, 1] rfl (by decide) rfl (Nat.le_of_ble_eq_true rfl) (Nat.le_of_ble_eq_true rfl) dX11_isCase_20
theorem dX11_sit_0 : decode cX11_sit 0 = .ok (.aload_n 0, 1) := by decide +kernel
theorem dX11_sit_1 : decode cX11_sit 1 = .ok (.iload_n 1, 1) := by decide +kernel
theorem dX11_sit_2 : decode cX11_sit 2 = .ok (.invokevirtual 137, 3) := by decide +kernel
theorem dX11_sit_5 : decode cX11_sit 5 = .ok (.ifCond .eq 12, 3) := by decide +kernel
theorem dX11_sit_17 : decode cX11_sit 17 = .ok (.iconst (-1), 1) := by decide +kernel
theorem dX11_sit_18 : decode cX11_sit 18 = .ok (.ireturn, 1) := by decide +kernel
set_option maxRecDepth 20000 in
theorem ggX11_sit_X11_isJuror : GoodIn wsX11_sit wsX11_isJuror := goodIn_r _ [5, 6, 7, 102, 103, 104, 105, 106, 107, 108, 109, 110, 111, 112, 113, 114, 115, 116, 117, 118, 119, 120, 121, 122, 123, 124, 125, 126, 127, 128, 129, 130, 131, 132] rfl (by decide +kernel)
set_option maxRecDepth 20000 in
theorem gX11_sit_X11_isJuror : GoodIn wsX11_sit (wsV RX11 137 RX11 yX11_isJuror wsX11_isJuror) := goodIn_app (goodIn_of _ (by decide +kernel)) ggX11_sit_X11_isJuror
set_option maxHeartbeats 4000000 in
set_option maxRecDepth 100000 in
theorem c_sit (l : Launch) (D : va_G) (ca : Nat → ClassId) (sz : Nat) (h0 : Nat) (j0 : Int32) (t0 : Nat) (l0 : Nat) (s0 : Nat) (y0 : Nat) (c0 : Nat) (b0 : Nat) (e0 : Nat) (n0 : Nat) (w0 : Nat) (i0 : Nat) (g0 : Nat) (a0 : Nat) (k0 : Nat) (z0 : Nat) (l0_jurorName : Nat) (l0_floorName : Nat) (l0_caseName : Nat) (l0_pitch : Nat) (l0_length : Nat) (l0_hands : Nat) (l0_tune : Nat) (l0_dull : Nat) (l0_caseFloor : Nat) (l0_tuned : Nat)  : oMet l yX11_sit wsX11_sit ({ frames := 1, cells := 0, slots := 0, locals := 21 } : Room) [.ref h0, .int j0] D ca sz [(h0, .inr (10, [.ref t0, .ref l0, .ref s0, .ref y0, .ref c0, .ref b0, .ref e0, .ref n0, .ref w0, .ref i0, .ref g0, .ref a0, .ref k0, .ref z0, .int 0])), (l0, .inr (5, [.int 0, .int 0, .int 0, .int 3, .int 1, .int 0, .ref l0_jurorName, .ref l0_floorName, .ref l0_caseName, .ref l0_pitch, .ref l0_length, .ref l0_hands, .ref l0_tune, .ref l0_dull, .ref l0_caseFloor, .ref l0_tuned]))] (oQi D (fun (r : Int32) (u : Unit) => r = (-1)) (fun (u : Unit) => [(h0, .inr (10, [.ref t0, .ref l0, .ref s0, .ref y0, .ref c0, .ref b0, .ref e0, .ref n0, .ref w0, .ref i0, .ref g0, .ref a0, .ref k0, .ref z0, .int 0])), (l0, .inr (5, [.int 0, .int 0, .int 0, .int 3, .int 1, .int 0, .ref l0_jurorName, .ref l0_floorName, .ref l0_caseName, .ref l0_pitch, .ref l0_length, .ref l0_hands, .ref l0_tune, .ref l0_dull, .ref l0_caseFloor, .ref l0_tuned]))])) 0 0 := by
  refine oM (cc := cX11_sit) (maxL := 2) (ret := (some .int)) (by decide) rfl (Nat.le_of_ble_eq_true rfl) [(0, .ref h0), (1, .int j0)] rfl ?_
  intro p e s m below meth c A H locs ls hx hb hr hml hts hown hlocks hin hK hP hD hA hS hl
  have hown : s.vm.findClass RX11 = some m.cls := hown
  refine lv_aload_n hx hb dX11_sit_0 rfl (lv_at hl 0 rfl) ?_
  refine lv_iload_n hx hb dX11_sit_1 rfl (lv_at hl 1 rfl) ?_
  refine oC_i (Wc := [(h0, .inr (10, [.ref t0, .ref l0, .ref s0, .ref y0, .ref c0, .ref b0, .ref e0, .ref n0, .ref w0, .ref i0, .ref g0, .ref a0, .ref k0, .ref z0, .int 0])), (l0, .inr (5, [.int 0, .int 0, .int 0, .int 3, .int 1, .int 0, .ref l0_jurorName, .ref l0_floorName, .ref l0_caseName, .ref l0_pitch, .ref l0_length, .ref l0_hands, .ref l0_tune, .ref l0_dull, .ref l0_caseFloor, .ref l0_tuned]))]) (Wr := []) (va_runV (As := [.int j0]) (rest := []) ⟨hx, hb, hml, hown, hts⟩ (c_isJuror l D ca H.size h0 j0 t0 l0 s0 y0 c0 b0 e0 n0 w0 i0 g0 a0 k0 z0 l0_jurorName l0_floorName l0_caseName l0_pitch l0_length l0_hands l0_tune l0_dull l0_caseFloor l0_tuned) (cwV 1 hts gX11_sit_X11_isJuror rfl rfl rfl (by decide +kernel) ⟨Nat.le_of_ble_eq_true rfl, Nat.le_of_ble_eq_true rfl⟩) (oPV (C := RX11) hK hP hD [0, 1] rfl (by decide) 0 rfl (ci := 10) rfl rfl) rfl rfl hl.1 rfl (lv_room (Nat.le_of_ble_eq_true rfl)) dX11_sit_2 ⟨Nat.le_of_ble_eq_true rfl, Nat.le_of_ble_eq_true rfl⟩) hP hD hS hA [0, 1] [] rfl rfl (by decide) (by decide) (fun r_1 u H locs w_2 hP hD hS => ?_)
  obtain ⟨⟩ := u
  try dsimp only at w_2
  subst w_2
  have hP : va_P D vwCl [(h0, .inr (10, [.ref t0, .ref l0, .ref s0, .ref y0, .ref c0, .ref b0, .ref e0, .ref n0, .ref w0, .ref i0, .ref g0, .ref a0, .ref k0, .ref z0, .int 0])), (l0, .inr (5, [.int 0, .int 0, .int 0, .int 3, .int 1, .int 0, .ref l0_jurorName, .ref l0_floorName, .ref l0_caseName, .ref l0_pitch, .ref l0_length, .ref l0_hands, .ref l0_tune, .ref l0_dull, .ref l0_caseFloor, .ref l0_tuned]))] H := hP
  have hD : va_D A [(h0, .inr (10, [.ref t0, .ref l0, .ref s0, .ref y0, .ref c0, .ref b0, .ref e0, .ref n0, .ref w0, .ref i0, .ref g0, .ref a0, .ref k0, .ref z0, .int 0])), (l0, .inr (5, [.int 0, .int 0, .int 0, .int 3, .int 1, .int 0, .ref l0_jurorName, .ref l0_floorName, .ref l0_caseName, .ref l0_pitch, .ref l0_length, .ref l0_hands, .ref l0_tune, .ref l0_dull, .ref l0_caseFloor, .ref l0_tuned]))] := hD
  refine lv_if_eq (tgt := 17) hx hb dX11_sit_5 (by decide) (fun _ => ?_) (fun c => absurd (by decide) c)
  refine lv_iconst (v := (-1)) hx hb dX11_sit_17 (by decide) ?_
  exact oE_i hx hb hr rfl hlocks hP hD hS () [0, 1] rfl (by decide) rfl (Nat.le_of_ble_eq_true rfl) (Nat.le_of_ble_eq_true rfl) dX11_sit_18
theorem dX11_rise_0 : decode cX11_rise 0 = .ok (.aload_n 0, 1) := by decide +kernel
theorem dX11_rise_1 : decode cX11_rise 1 = .ok (.iload_n 1, 1) := by decide +kernel
theorem dX11_rise_2 : decode cX11_rise 2 = .ok (.invokevirtual 137, 3) := by decide +kernel
theorem dX11_rise_5 : decode cX11_rise 5 = .ok (.ifCond .eq 12, 3) := by decide +kernel
theorem dX11_rise_17 : decode cX11_rise 17 = .ok (.iconst (-1), 1) := by decide +kernel
theorem dX11_rise_18 : decode cX11_rise 18 = .ok (.ireturn, 1) := by decide +kernel
set_option maxRecDepth 20000 in
theorem ggX11_rise_X11_isJuror : GoodIn wsX11_rise wsX11_isJuror := goodIn_r _ [5, 6, 7, 102, 103, 104, 105, 106, 107, 108, 109, 110, 111, 112, 113, 114, 115, 116, 117, 118, 119, 120, 121, 122, 123, 124, 125, 126, 127, 128, 129, 130, 131, 132] rfl (by decide +kernel)
set_option maxRecDepth 20000 in
theorem gX11_rise_X11_isJuror : GoodIn wsX11_rise (wsV RX11 137 RX11 yX11_isJuror wsX11_isJuror) := goodIn_app (goodIn_of _ (by decide +kernel)) ggX11_rise_X11_isJuror
set_option maxHeartbeats 4000000 in
set_option maxRecDepth 100000 in
theorem c_rise (l : Launch) (D : va_G) (ca : Nat → ClassId) (sz : Nat) (h0 : Nat) (j0 : Int32) (t0 : Nat) (l0 : Nat) (s0 : Nat) (y0 : Nat) (c0 : Nat) (b0 : Nat) (e0 : Nat) (n0 : Nat) (w0 : Nat) (i0 : Nat) (g0 : Nat) (a0 : Nat) (k0 : Nat) (z0 : Nat) (l0_jurorName : Nat) (l0_floorName : Nat) (l0_caseName : Nat) (l0_pitch : Nat) (l0_length : Nat) (l0_hands : Nat) (l0_tune : Nat) (l0_dull : Nat) (l0_caseFloor : Nat) (l0_tuned : Nat)  : oMet l yX11_rise wsX11_rise ({ frames := 1, cells := 0, slots := 0, locals := 21 } : Room) [.ref h0, .int j0] D ca sz [(h0, .inr (10, [.ref t0, .ref l0, .ref s0, .ref y0, .ref c0, .ref b0, .ref e0, .ref n0, .ref w0, .ref i0, .ref g0, .ref a0, .ref k0, .ref z0, .int 0])), (l0, .inr (5, [.int 0, .int 0, .int 0, .int 3, .int 1, .int 0, .ref l0_jurorName, .ref l0_floorName, .ref l0_caseName, .ref l0_pitch, .ref l0_length, .ref l0_hands, .ref l0_tune, .ref l0_dull, .ref l0_caseFloor, .ref l0_tuned]))] (oQi D (fun (r : Int32) (u : Unit) => r = (-1)) (fun (u : Unit) => [(h0, .inr (10, [.ref t0, .ref l0, .ref s0, .ref y0, .ref c0, .ref b0, .ref e0, .ref n0, .ref w0, .ref i0, .ref g0, .ref a0, .ref k0, .ref z0, .int 0])), (l0, .inr (5, [.int 0, .int 0, .int 0, .int 3, .int 1, .int 0, .ref l0_jurorName, .ref l0_floorName, .ref l0_caseName, .ref l0_pitch, .ref l0_length, .ref l0_hands, .ref l0_tune, .ref l0_dull, .ref l0_caseFloor, .ref l0_tuned]))])) 0 0 := by
  refine oM (cc := cX11_rise) (maxL := 2) (ret := (some .int)) (by decide) rfl (Nat.le_of_ble_eq_true rfl) [(0, .ref h0), (1, .int j0)] rfl ?_
  intro p e s m below meth c A H locs ls hx hb hr hml hts hown hlocks hin hK hP hD hA hS hl
  have hown : s.vm.findClass RX11 = some m.cls := hown
  refine lv_aload_n hx hb dX11_rise_0 rfl (lv_at hl 0 rfl) ?_
  refine lv_iload_n hx hb dX11_rise_1 rfl (lv_at hl 1 rfl) ?_
  refine oC_i (Wc := [(h0, .inr (10, [.ref t0, .ref l0, .ref s0, .ref y0, .ref c0, .ref b0, .ref e0, .ref n0, .ref w0, .ref i0, .ref g0, .ref a0, .ref k0, .ref z0, .int 0])), (l0, .inr (5, [.int 0, .int 0, .int 0, .int 3, .int 1, .int 0, .ref l0_jurorName, .ref l0_floorName, .ref l0_caseName, .ref l0_pitch, .ref l0_length, .ref l0_hands, .ref l0_tune, .ref l0_dull, .ref l0_caseFloor, .ref l0_tuned]))]) (Wr := []) (va_runV (As := [.int j0]) (rest := []) ⟨hx, hb, hml, hown, hts⟩ (c_isJuror l D ca H.size h0 j0 t0 l0 s0 y0 c0 b0 e0 n0 w0 i0 g0 a0 k0 z0 l0_jurorName l0_floorName l0_caseName l0_pitch l0_length l0_hands l0_tune l0_dull l0_caseFloor l0_tuned) (cwV 1 hts gX11_rise_X11_isJuror rfl rfl rfl (by decide +kernel) ⟨Nat.le_of_ble_eq_true rfl, Nat.le_of_ble_eq_true rfl⟩) (oPV (C := RX11) hK hP hD [0, 1] rfl (by decide) 0 rfl (ci := 10) rfl rfl) rfl rfl hl.1 rfl (lv_room (Nat.le_of_ble_eq_true rfl)) dX11_rise_2 ⟨Nat.le_of_ble_eq_true rfl, Nat.le_of_ble_eq_true rfl⟩) hP hD hS hA [0, 1] [] rfl rfl (by decide) (by decide) (fun r_1 u H locs w_2 hP hD hS => ?_)
  obtain ⟨⟩ := u
  try dsimp only at w_2
  subst w_2
  have hP : va_P D vwCl [(h0, .inr (10, [.ref t0, .ref l0, .ref s0, .ref y0, .ref c0, .ref b0, .ref e0, .ref n0, .ref w0, .ref i0, .ref g0, .ref a0, .ref k0, .ref z0, .int 0])), (l0, .inr (5, [.int 0, .int 0, .int 0, .int 3, .int 1, .int 0, .ref l0_jurorName, .ref l0_floorName, .ref l0_caseName, .ref l0_pitch, .ref l0_length, .ref l0_hands, .ref l0_tune, .ref l0_dull, .ref l0_caseFloor, .ref l0_tuned]))] H := hP
  have hD : va_D A [(h0, .inr (10, [.ref t0, .ref l0, .ref s0, .ref y0, .ref c0, .ref b0, .ref e0, .ref n0, .ref w0, .ref i0, .ref g0, .ref a0, .ref k0, .ref z0, .int 0])), (l0, .inr (5, [.int 0, .int 0, .int 0, .int 3, .int 1, .int 0, .ref l0_jurorName, .ref l0_floorName, .ref l0_caseName, .ref l0_pitch, .ref l0_length, .ref l0_hands, .ref l0_tune, .ref l0_dull, .ref l0_caseFloor, .ref l0_tuned]))] := hD
  refine lv_if_eq (tgt := 17) hx hb dX11_rise_5 (by decide) (fun _ => ?_) (fun c => absurd (by decide) c)
  refine lv_iconst (v := (-1)) hx hb dX11_rise_17 (by decide) ?_
  exact oE_i hx hb hr rfl hlocks hP hD hS () [0, 1] rfl (by decide) rfl (Nat.le_of_ble_eq_true rfl) (Nat.le_of_ble_eq_true rfl) dX11_rise_18
theorem dX11_hold_0 : decode cX11_hold 0 = .ok (.aload_n 0, 1) := by decide +kernel
theorem dX11_hold_1 : decode cX11_hold 1 = .ok (.iload_n 1, 1) := by decide +kernel
theorem dX11_hold_2 : decode cX11_hold 2 = .ok (.invokevirtual 137, 3) := by decide +kernel
theorem dX11_hold_5 : decode cX11_hold 5 = .ok (.ifCond .eq 12, 3) := by decide +kernel
theorem dX11_hold_17 : decode cX11_hold 17 = .ok (.iconst (-1), 1) := by decide +kernel
theorem dX11_hold_18 : decode cX11_hold 18 = .ok (.ireturn, 1) := by decide +kernel
set_option maxRecDepth 20000 in
theorem ggX11_hold_X11_isJuror : GoodIn wsX11_hold wsX11_isJuror := goodIn_r _ [5, 6, 7, 102, 103, 104, 105, 106, 107, 108, 109, 110, 111, 112, 113, 114, 115, 116, 117, 118, 119, 120, 121, 122, 123, 124, 125, 126, 127, 128, 129, 130, 131, 132] rfl (by decide +kernel)
set_option maxRecDepth 20000 in
theorem gX11_hold_X11_isJuror : GoodIn wsX11_hold (wsV RX11 137 RX11 yX11_isJuror wsX11_isJuror) := goodIn_app (goodIn_of _ (by decide +kernel)) ggX11_hold_X11_isJuror
set_option maxHeartbeats 4000000 in
set_option maxRecDepth 100000 in
theorem c_hold (l : Launch) (D : va_G) (ca : Nat → ClassId) (sz : Nat) (h0 : Nat) (j0 : Int32) (t0 : Nat) (l0 : Nat) (s0 : Nat) (y0 : Nat) (c0 : Nat) (b0 : Nat) (e0 : Nat) (n0 : Nat) (w0 : Nat) (i0 : Nat) (g0 : Nat) (a0 : Nat) (k0 : Nat) (z0 : Nat) (l0_jurorName : Nat) (l0_floorName : Nat) (l0_caseName : Nat) (l0_pitch : Nat) (l0_length : Nat) (l0_hands : Nat) (l0_tune : Nat) (l0_dull : Nat) (l0_caseFloor : Nat) (l0_tuned : Nat)  : oMet l yX11_hold wsX11_hold ({ frames := 1, cells := 0, slots := 0, locals := 21 } : Room) [.ref h0, .int j0] D ca sz [(h0, .inr (10, [.ref t0, .ref l0, .ref s0, .ref y0, .ref c0, .ref b0, .ref e0, .ref n0, .ref w0, .ref i0, .ref g0, .ref a0, .ref k0, .ref z0, .int 0])), (l0, .inr (5, [.int 0, .int 0, .int 0, .int 3, .int 1, .int 0, .ref l0_jurorName, .ref l0_floorName, .ref l0_caseName, .ref l0_pitch, .ref l0_length, .ref l0_hands, .ref l0_tune, .ref l0_dull, .ref l0_caseFloor, .ref l0_tuned]))] (oQi D (fun (r : Int32) (u : Unit) => r = (-1)) (fun (u : Unit) => [(h0, .inr (10, [.ref t0, .ref l0, .ref s0, .ref y0, .ref c0, .ref b0, .ref e0, .ref n0, .ref w0, .ref i0, .ref g0, .ref a0, .ref k0, .ref z0, .int 0])), (l0, .inr (5, [.int 0, .int 0, .int 0, .int 3, .int 1, .int 0, .ref l0_jurorName, .ref l0_floorName, .ref l0_caseName, .ref l0_pitch, .ref l0_length, .ref l0_hands, .ref l0_tune, .ref l0_dull, .ref l0_caseFloor, .ref l0_tuned]))])) 0 0 := by
  refine oM (cc := cX11_hold) (maxL := 2) (ret := (some .int)) (by decide) rfl (Nat.le_of_ble_eq_true rfl) [(0, .ref h0), (1, .int j0)] rfl ?_
  intro p e s m below meth c A H locs ls hx hb hr hml hts hown hlocks hin hK hP hD hA hS hl
  have hown : s.vm.findClass RX11 = some m.cls := hown
  refine lv_aload_n hx hb dX11_hold_0 rfl (lv_at hl 0 rfl) ?_
  refine lv_iload_n hx hb dX11_hold_1 rfl (lv_at hl 1 rfl) ?_
  refine oC_i (Wc := [(h0, .inr (10, [.ref t0, .ref l0, .ref s0, .ref y0, .ref c0, .ref b0, .ref e0, .ref n0, .ref w0, .ref i0, .ref g0, .ref a0, .ref k0, .ref z0, .int 0])), (l0, .inr (5, [.int 0, .int 0, .int 0, .int 3, .int 1, .int 0, .ref l0_jurorName, .ref l0_floorName, .ref l0_caseName, .ref l0_pitch, .ref l0_length, .ref l0_hands, .ref l0_tune, .ref l0_dull, .ref l0_caseFloor, .ref l0_tuned]))]) (Wr := []) (va_runV (As := [.int j0]) (rest := []) ⟨hx, hb, hml, hown, hts⟩ (c_isJuror l D ca H.size h0 j0 t0 l0 s0 y0 c0 b0 e0 n0 w0 i0 g0 a0 k0 z0 l0_jurorName l0_floorName l0_caseName l0_pitch l0_length l0_hands l0_tune l0_dull l0_caseFloor l0_tuned) (cwV 1 hts gX11_hold_X11_isJuror rfl rfl rfl (by decide +kernel) ⟨Nat.le_of_ble_eq_true rfl, Nat.le_of_ble_eq_true rfl⟩) (oPV (C := RX11) hK hP hD [0, 1] rfl (by decide) 0 rfl (ci := 10) rfl rfl) rfl rfl hl.1 rfl (lv_room (Nat.le_of_ble_eq_true rfl)) dX11_hold_2 ⟨Nat.le_of_ble_eq_true rfl, Nat.le_of_ble_eq_true rfl⟩) hP hD hS hA [0, 1] [] rfl rfl (by decide) (by decide) (fun r_1 u H locs w_2 hP hD hS => ?_)
  obtain ⟨⟩ := u
  try dsimp only at w_2
  subst w_2
  have hP : va_P D vwCl [(h0, .inr (10, [.ref t0, .ref l0, .ref s0, .ref y0, .ref c0, .ref b0, .ref e0, .ref n0, .ref w0, .ref i0, .ref g0, .ref a0, .ref k0, .ref z0, .int 0])), (l0, .inr (5, [.int 0, .int 0, .int 0, .int 3, .int 1, .int 0, .ref l0_jurorName, .ref l0_floorName, .ref l0_caseName, .ref l0_pitch, .ref l0_length, .ref l0_hands, .ref l0_tune, .ref l0_dull, .ref l0_caseFloor, .ref l0_tuned]))] H := hP
  have hD : va_D A [(h0, .inr (10, [.ref t0, .ref l0, .ref s0, .ref y0, .ref c0, .ref b0, .ref e0, .ref n0, .ref w0, .ref i0, .ref g0, .ref a0, .ref k0, .ref z0, .int 0])), (l0, .inr (5, [.int 0, .int 0, .int 0, .int 3, .int 1, .int 0, .ref l0_jurorName, .ref l0_floorName, .ref l0_caseName, .ref l0_pitch, .ref l0_length, .ref l0_hands, .ref l0_tune, .ref l0_dull, .ref l0_caseFloor, .ref l0_tuned]))] := hD
  refine lv_if_eq (tgt := 17) hx hb dX11_hold_5 (by decide) (fun _ => ?_) (fun c => absurd (by decide) c)
  refine lv_iconst (v := (-1)) hx hb dX11_hold_17 (by decide) ?_
  exact oE_i hx hb hr rfl hlocks hP hD hS () [0, 1] rfl (by decide) rfl (Nat.le_of_ble_eq_true rfl) (Nat.le_of_ble_eq_true rfl) dX11_hold_18
theorem dX11_drop_0 : decode cX11_drop 0 = .ok (.aload_n 0, 1) := by decide +kernel
theorem dX11_drop_1 : decode cX11_drop 1 = .ok (.iload_n 1, 1) := by decide +kernel
theorem dX11_drop_2 : decode cX11_drop 2 = .ok (.invokevirtual 137, 3) := by decide +kernel
theorem dX11_drop_5 : decode cX11_drop 5 = .ok (.ifCond .eq 12, 3) := by decide +kernel
theorem dX11_drop_17 : decode cX11_drop 17 = .ok (.iconst (-1), 1) := by decide +kernel
theorem dX11_drop_18 : decode cX11_drop 18 = .ok (.ireturn, 1) := by decide +kernel
set_option maxRecDepth 20000 in
theorem ggX11_drop_X11_isJuror : GoodIn wsX11_drop wsX11_isJuror := goodIn_r _ [5, 6, 7, 102, 103, 104, 105, 106, 107, 108, 109, 110, 111, 112, 113, 114, 115, 116, 117, 118, 119, 120, 121, 122, 123, 124, 125, 126, 127, 128, 129, 130, 131, 132] rfl (by decide +kernel)
set_option maxRecDepth 20000 in
theorem gX11_drop_X11_isJuror : GoodIn wsX11_drop (wsV RX11 137 RX11 yX11_isJuror wsX11_isJuror) := goodIn_app (goodIn_of _ (by decide +kernel)) ggX11_drop_X11_isJuror
set_option maxHeartbeats 4000000 in
set_option maxRecDepth 100000 in
theorem c_drop (l : Launch) (D : va_G) (ca : Nat → ClassId) (sz : Nat) (h0 : Nat) (j0 : Int32) (t0 : Nat) (l0 : Nat) (s0 : Nat) (y0 : Nat) (c0 : Nat) (b0 : Nat) (e0 : Nat) (n0 : Nat) (w0 : Nat) (i0 : Nat) (g0 : Nat) (a0 : Nat) (k0 : Nat) (z0 : Nat) (l0_jurorName : Nat) (l0_floorName : Nat) (l0_caseName : Nat) (l0_pitch : Nat) (l0_length : Nat) (l0_hands : Nat) (l0_tune : Nat) (l0_dull : Nat) (l0_caseFloor : Nat) (l0_tuned : Nat)  : oMet l yX11_drop wsX11_drop ({ frames := 1, cells := 0, slots := 0, locals := 21 } : Room) [.ref h0, .int j0] D ca sz [(h0, .inr (10, [.ref t0, .ref l0, .ref s0, .ref y0, .ref c0, .ref b0, .ref e0, .ref n0, .ref w0, .ref i0, .ref g0, .ref a0, .ref k0, .ref z0, .int 0])), (l0, .inr (5, [.int 0, .int 0, .int 0, .int 3, .int 1, .int 0, .ref l0_jurorName, .ref l0_floorName, .ref l0_caseName, .ref l0_pitch, .ref l0_length, .ref l0_hands, .ref l0_tune, .ref l0_dull, .ref l0_caseFloor, .ref l0_tuned]))] (oQi D (fun (r : Int32) (u : Unit) => r = (-1)) (fun (u : Unit) => [(h0, .inr (10, [.ref t0, .ref l0, .ref s0, .ref y0, .ref c0, .ref b0, .ref e0, .ref n0, .ref w0, .ref i0, .ref g0, .ref a0, .ref k0, .ref z0, .int 0])), (l0, .inr (5, [.int 0, .int 0, .int 0, .int 3, .int 1, .int 0, .ref l0_jurorName, .ref l0_floorName, .ref l0_caseName, .ref l0_pitch, .ref l0_length, .ref l0_hands, .ref l0_tune, .ref l0_dull, .ref l0_caseFloor, .ref l0_tuned]))])) 0 0 := by
  refine oM (cc := cX11_drop) (maxL := 2) (ret := (some .int)) (by decide) rfl (Nat.le_of_ble_eq_true rfl) [(0, .ref h0), (1, .int j0)] rfl ?_
  intro p e s m below meth c A H locs ls hx hb hr hml hts hown hlocks hin hK hP hD hA hS hl
  have hown : s.vm.findClass RX11 = some m.cls := hown
  refine lv_aload_n hx hb dX11_drop_0 rfl (lv_at hl 0 rfl) ?_
  refine lv_iload_n hx hb dX11_drop_1 rfl (lv_at hl 1 rfl) ?_
  refine oC_i (Wc := [(h0, .inr (10, [.ref t0, .ref l0, .ref s0, .ref y0, .ref c0, .ref b0, .ref e0, .ref n0, .ref w0, .ref i0, .ref g0, .ref a0, .ref k0, .ref z0, .int 0])), (l0, .inr (5, [.int 0, .int 0, .int 0, .int 3, .int 1, .int 0, .ref l0_jurorName, .ref l0_floorName, .ref l0_caseName, .ref l0_pitch, .ref l0_length, .ref l0_hands, .ref l0_tune, .ref l0_dull, .ref l0_caseFloor, .ref l0_tuned]))]) (Wr := []) (va_runV (As := [.int j0]) (rest := []) ⟨hx, hb, hml, hown, hts⟩ (c_isJuror l D ca H.size h0 j0 t0 l0 s0 y0 c0 b0 e0 n0 w0 i0 g0 a0 k0 z0 l0_jurorName l0_floorName l0_caseName l0_pitch l0_length l0_hands l0_tune l0_dull l0_caseFloor l0_tuned) (cwV 1 hts gX11_drop_X11_isJuror rfl rfl rfl (by decide +kernel) ⟨Nat.le_of_ble_eq_true rfl, Nat.le_of_ble_eq_true rfl⟩) (oPV (C := RX11) hK hP hD [0, 1] rfl (by decide) 0 rfl (ci := 10) rfl rfl) rfl rfl hl.1 rfl (lv_room (Nat.le_of_ble_eq_true rfl)) dX11_drop_2 ⟨Nat.le_of_ble_eq_true rfl, Nat.le_of_ble_eq_true rfl⟩) hP hD hS hA [0, 1] [] rfl rfl (by decide) (by decide) (fun r_1 u H locs w_2 hP hD hS => ?_)
  obtain ⟨⟩ := u
  try dsimp only at w_2
  subst w_2
  have hP : va_P D vwCl [(h0, .inr (10, [.ref t0, .ref l0, .ref s0, .ref y0, .ref c0, .ref b0, .ref e0, .ref n0, .ref w0, .ref i0, .ref g0, .ref a0, .ref k0, .ref z0, .int 0])), (l0, .inr (5, [.int 0, .int 0, .int 0, .int 3, .int 1, .int 0, .ref l0_jurorName, .ref l0_floorName, .ref l0_caseName, .ref l0_pitch, .ref l0_length, .ref l0_hands, .ref l0_tune, .ref l0_dull, .ref l0_caseFloor, .ref l0_tuned]))] H := hP
  have hD : va_D A [(h0, .inr (10, [.ref t0, .ref l0, .ref s0, .ref y0, .ref c0, .ref b0, .ref e0, .ref n0, .ref w0, .ref i0, .ref g0, .ref a0, .ref k0, .ref z0, .int 0])), (l0, .inr (5, [.int 0, .int 0, .int 0, .int 3, .int 1, .int 0, .ref l0_jurorName, .ref l0_floorName, .ref l0_caseName, .ref l0_pitch, .ref l0_length, .ref l0_hands, .ref l0_tune, .ref l0_dull, .ref l0_caseFloor, .ref l0_tuned]))] := hD
  refine lv_if_eq (tgt := 17) hx hb dX11_drop_5 (by decide) (fun _ => ?_) (fun c => absurd (by decide) c)
  refine lv_iconst (v := (-1)) hx hb dX11_drop_17 (by decide) ?_
  exact oE_i hx hb hr rfl hlocks hP hD hS () [0, 1] rfl (by decide) rfl (Nat.le_of_ble_eq_true rfl) (Nat.le_of_ble_eq_true rfl) dX11_drop_18
theorem dX11_beat_0 : decode cX11_beat 0 = .ok (.aload_n 0, 1) := by decide +kernel
theorem dX11_beat_1 : decode cX11_beat 1 = .ok (.iload_n 1, 1) := by decide +kernel
theorem dX11_beat_2 : decode cX11_beat 2 = .ok (.invokevirtual 137, 3) := by decide +kernel
theorem dX11_beat_5 : decode cX11_beat 5 = .ok (.ifCond .eq 12, 3) := by decide +kernel
theorem dX11_beat_17 : decode cX11_beat 17 = .ok (.iconst (-1), 1) := by decide +kernel
theorem dX11_beat_18 : decode cX11_beat 18 = .ok (.ireturn, 1) := by decide +kernel
set_option maxRecDepth 20000 in
theorem ggX11_beat_X11_isJuror : GoodIn wsX11_beat wsX11_isJuror := goodIn_r _ [5, 6, 7, 102, 103, 104, 105, 106, 107, 108, 109, 110, 111, 112, 113, 114, 115, 116, 117, 118, 119, 120, 121, 122, 123, 124, 125, 126, 127, 128, 129, 130, 131, 132] rfl (by decide +kernel)
set_option maxRecDepth 20000 in
theorem gX11_beat_X11_isJuror : GoodIn wsX11_beat (wsV RX11 137 RX11 yX11_isJuror wsX11_isJuror) := goodIn_app (goodIn_of _ (by decide +kernel)) ggX11_beat_X11_isJuror
set_option maxHeartbeats 4000000 in
set_option maxRecDepth 100000 in
theorem c_beat (l : Launch) (D : va_G) (ca : Nat → ClassId) (sz : Nat) (h0 : Nat) (j0 : Int32) (t0 : Nat) (l0 : Nat) (s0 : Nat) (y0 : Nat) (c0 : Nat) (b0 : Nat) (e0 : Nat) (n0 : Nat) (w0 : Nat) (i0 : Nat) (g0 : Nat) (a0 : Nat) (k0 : Nat) (z0 : Nat) (l0_jurorName : Nat) (l0_floorName : Nat) (l0_caseName : Nat) (l0_pitch : Nat) (l0_length : Nat) (l0_hands : Nat) (l0_tune : Nat) (l0_dull : Nat) (l0_caseFloor : Nat) (l0_tuned : Nat)  : oMet l yX11_beat wsX11_beat ({ frames := 1, cells := 0, slots := 0, locals := 21 } : Room) [.ref h0, .int j0] D ca sz [(h0, .inr (10, [.ref t0, .ref l0, .ref s0, .ref y0, .ref c0, .ref b0, .ref e0, .ref n0, .ref w0, .ref i0, .ref g0, .ref a0, .ref k0, .ref z0, .int 0])), (l0, .inr (5, [.int 0, .int 0, .int 0, .int 3, .int 1, .int 0, .ref l0_jurorName, .ref l0_floorName, .ref l0_caseName, .ref l0_pitch, .ref l0_length, .ref l0_hands, .ref l0_tune, .ref l0_dull, .ref l0_caseFloor, .ref l0_tuned]))] (oQi D (fun (r : Int32) (u : Unit) => r = (-1)) (fun (u : Unit) => [(h0, .inr (10, [.ref t0, .ref l0, .ref s0, .ref y0, .ref c0, .ref b0, .ref e0, .ref n0, .ref w0, .ref i0, .ref g0, .ref a0, .ref k0, .ref z0, .int 0])), (l0, .inr (5, [.int 0, .int 0, .int 0, .int 3, .int 1, .int 0, .ref l0_jurorName, .ref l0_floorName, .ref l0_caseName, .ref l0_pitch, .ref l0_length, .ref l0_hands, .ref l0_tune, .ref l0_dull, .ref l0_caseFloor, .ref l0_tuned]))])) 0 0 := by
  refine oM (cc := cX11_beat) (maxL := 2) (ret := (some .int)) (by decide) rfl (Nat.le_of_ble_eq_true rfl) [(0, .ref h0), (1, .int j0)] rfl ?_
  intro p e s m below meth c A H locs ls hx hb hr hml hts hown hlocks hin hK hP hD hA hS hl
  have hown : s.vm.findClass RX11 = some m.cls := hown
  refine lv_aload_n hx hb dX11_beat_0 rfl (lv_at hl 0 rfl) ?_
  refine lv_iload_n hx hb dX11_beat_1 rfl (lv_at hl 1 rfl) ?_
  refine oC_i (Wc := [(h0, .inr (10, [.ref t0, .ref l0, .ref s0, .ref y0, .ref c0, .ref b0, .ref e0, .ref n0, .ref w0, .ref i0, .ref g0, .ref a0, .ref k0, .ref z0, .int 0])), (l0, .inr (5, [.int 0, .int 0, .int 0, .int 3, .int 1, .int 0, .ref l0_jurorName, .ref l0_floorName, .ref l0_caseName, .ref l0_pitch, .ref l0_length, .ref l0_hands, .ref l0_tune, .ref l0_dull, .ref l0_caseFloor, .ref l0_tuned]))]) (Wr := []) (va_runV (As := [.int j0]) (rest := []) ⟨hx, hb, hml, hown, hts⟩ (c_isJuror l D ca H.size h0 j0 t0 l0 s0 y0 c0 b0 e0 n0 w0 i0 g0 a0 k0 z0 l0_jurorName l0_floorName l0_caseName l0_pitch l0_length l0_hands l0_tune l0_dull l0_caseFloor l0_tuned) (cwV 1 hts gX11_beat_X11_isJuror rfl rfl rfl (by decide +kernel) ⟨Nat.le_of_ble_eq_true rfl, Nat.le_of_ble_eq_true rfl⟩) (oPV (C := RX11) hK hP hD [0, 1] rfl (by decide) 0 rfl (ci := 10) rfl rfl) rfl rfl hl.1 rfl (lv_room (Nat.le_of_ble_eq_true rfl)) dX11_beat_2 ⟨Nat.le_of_ble_eq_true rfl, Nat.le_of_ble_eq_true rfl⟩) hP hD hS hA [0, 1] [] rfl rfl (by decide) (by decide) (fun r_1 u H locs w_2 hP hD hS => ?_)
  obtain ⟨⟩ := u
  try dsimp only at w_2
  subst w_2
  have hP : va_P D vwCl [(h0, .inr (10, [.ref t0, .ref l0, .ref s0, .ref y0, .ref c0, .ref b0, .ref e0, .ref n0, .ref w0, .ref i0, .ref g0, .ref a0, .ref k0, .ref z0, .int 0])), (l0, .inr (5, [.int 0, .int 0, .int 0, .int 3, .int 1, .int 0, .ref l0_jurorName, .ref l0_floorName, .ref l0_caseName, .ref l0_pitch, .ref l0_length, .ref l0_hands, .ref l0_tune, .ref l0_dull, .ref l0_caseFloor, .ref l0_tuned]))] H := hP
  have hD : va_D A [(h0, .inr (10, [.ref t0, .ref l0, .ref s0, .ref y0, .ref c0, .ref b0, .ref e0, .ref n0, .ref w0, .ref i0, .ref g0, .ref a0, .ref k0, .ref z0, .int 0])), (l0, .inr (5, [.int 0, .int 0, .int 0, .int 3, .int 1, .int 0, .ref l0_jurorName, .ref l0_floorName, .ref l0_caseName, .ref l0_pitch, .ref l0_length, .ref l0_hands, .ref l0_tune, .ref l0_dull, .ref l0_caseFloor, .ref l0_tuned]))] := hD
  refine lv_if_eq (tgt := 17) hx hb dX11_beat_5 (by decide) (fun _ => ?_) (fun c => absurd (by decide) c)
  refine lv_iconst (v := (-1)) hx hb dX11_beat_17 (by decide) ?_
  exact oE_i hx hb hr rfl hlocks hP hD hS () [0, 1] rfl (by decide) rfl (Nat.le_of_ble_eq_true rfl) (Nat.le_of_ble_eq_true rfl) dX11_beat_18
theorem dX11_tryCase_0 : decode cX11_tryCase 0 = .ok (.aload_n 0, 1) := by decide +kernel
theorem dX11_tryCase_1 : decode cX11_tryCase 1 = .ok (.iload_n 1, 1) := by decide +kernel
theorem dX11_tryCase_2 : decode cX11_tryCase 2 = .ok (.invokevirtual 164, 3) := by decide +kernel
theorem dX11_tryCase_5 : decode cX11_tryCase 5 = .ok (.ifCond .eq 12, 3) := by decide +kernel
theorem dX11_tryCase_17 : decode cX11_tryCase 17 = .ok (.iconst (-1), 1) := by decide +kernel
theorem dX11_tryCase_18 : decode cX11_tryCase 18 = .ok (.ireturn, 1) := by decide +kernel
set_option maxRecDepth 20000 in
theorem ggX11_tryCase_X11_isCase : GoodIn wsX11_tryCase wsX11_isCase := goodIn_r _ [5, 6, 7, 102, 103, 104, 105, 106, 107, 108, 109, 110, 111, 112, 113, 114, 115, 116, 117, 118, 119, 120, 121, 122, 123, 124, 125, 126, 127, 128, 129, 130, 131, 132] rfl (by decide +kernel)
set_option maxRecDepth 20000 in
theorem gX11_tryCase_X11_isCase : GoodIn wsX11_tryCase (wsV RX11 164 RX11 yX11_isCase wsX11_isCase) := goodIn_app (goodIn_of _ (by decide +kernel)) ggX11_tryCase_X11_isCase
set_option maxHeartbeats 4000000 in
set_option maxRecDepth 100000 in
theorem c_tryCase (l : Launch) (D : va_G) (ca : Nat → ClassId) (sz : Nat) (h0 : Nat) (j0 : Int32) (t0 : Nat) (l0 : Nat) (s0 : Nat) (y0 : Nat) (c0 : Nat) (b0 : Nat) (e0 : Nat) (n0 : Nat) (w0 : Nat) (i0 : Nat) (g0 : Nat) (a0 : Nat) (k0 : Nat) (z0 : Nat) (l0_jurorName : Nat) (l0_floorName : Nat) (l0_caseName : Nat) (l0_pitch : Nat) (l0_length : Nat) (l0_hands : Nat) (l0_tune : Nat) (l0_dull : Nat) (l0_caseFloor : Nat) (l0_tuned : Nat)  : oMet l yX11_tryCase wsX11_tryCase ({ frames := 1, cells := 0, slots := 0, locals := 21 } : Room) [.ref h0, .int j0] D ca sz [(h0, .inr (10, [.ref t0, .ref l0, .ref s0, .ref y0, .ref c0, .ref b0, .ref e0, .ref n0, .ref w0, .ref i0, .ref g0, .ref a0, .ref k0, .ref z0, .int 0])), (l0, .inr (5, [.int 0, .int 0, .int 0, .int 3, .int 1, .int 0, .ref l0_jurorName, .ref l0_floorName, .ref l0_caseName, .ref l0_pitch, .ref l0_length, .ref l0_hands, .ref l0_tune, .ref l0_dull, .ref l0_caseFloor, .ref l0_tuned]))] (oQi D (fun (r : Int32) (u : Unit) => r = (-1)) (fun (u : Unit) => [(h0, .inr (10, [.ref t0, .ref l0, .ref s0, .ref y0, .ref c0, .ref b0, .ref e0, .ref n0, .ref w0, .ref i0, .ref g0, .ref a0, .ref k0, .ref z0, .int 0])), (l0, .inr (5, [.int 0, .int 0, .int 0, .int 3, .int 1, .int 0, .ref l0_jurorName, .ref l0_floorName, .ref l0_caseName, .ref l0_pitch, .ref l0_length, .ref l0_hands, .ref l0_tune, .ref l0_dull, .ref l0_caseFloor, .ref l0_tuned]))])) 0 0 := by
  refine oM (cc := cX11_tryCase) (maxL := 2) (ret := (some .int)) (by decide) rfl (Nat.le_of_ble_eq_true rfl) [(0, .ref h0), (1, .int j0)] rfl ?_
  intro p e s m below meth c A H locs ls hx hb hr hml hts hown hlocks hin hK hP hD hA hS hl
  have hown : s.vm.findClass RX11 = some m.cls := hown
  refine lv_aload_n hx hb dX11_tryCase_0 rfl (lv_at hl 0 rfl) ?_
  refine lv_iload_n hx hb dX11_tryCase_1 rfl (lv_at hl 1 rfl) ?_
  refine oC_i (Wc := [(h0, .inr (10, [.ref t0, .ref l0, .ref s0, .ref y0, .ref c0, .ref b0, .ref e0, .ref n0, .ref w0, .ref i0, .ref g0, .ref a0, .ref k0, .ref z0, .int 0])), (l0, .inr (5, [.int 0, .int 0, .int 0, .int 3, .int 1, .int 0, .ref l0_jurorName, .ref l0_floorName, .ref l0_caseName, .ref l0_pitch, .ref l0_length, .ref l0_hands, .ref l0_tune, .ref l0_dull, .ref l0_caseFloor, .ref l0_tuned]))]) (Wr := []) (va_runV (As := [.int j0]) (rest := []) ⟨hx, hb, hml, hown, hts⟩ (c_isCase l D ca H.size h0 j0 t0 l0 s0 y0 c0 b0 e0 n0 w0 i0 g0 a0 k0 z0 l0_jurorName l0_floorName l0_caseName l0_pitch l0_length l0_hands l0_tune l0_dull l0_caseFloor l0_tuned) (cwV 1 hts gX11_tryCase_X11_isCase rfl rfl rfl (by decide +kernel) ⟨Nat.le_of_ble_eq_true rfl, Nat.le_of_ble_eq_true rfl⟩) (oPV (C := RX11) hK hP hD [0, 1] rfl (by decide) 0 rfl (ci := 10) rfl rfl) rfl rfl hl.1 rfl (lv_room (Nat.le_of_ble_eq_true rfl)) dX11_tryCase_2 ⟨Nat.le_of_ble_eq_true rfl, Nat.le_of_ble_eq_true rfl⟩) hP hD hS hA [0, 1] [] rfl rfl (by decide) (by decide) (fun r_1 u H locs w_2 hP hD hS => ?_)
  obtain ⟨⟩ := u
  try dsimp only at w_2
  subst w_2
  have hP : va_P D vwCl [(h0, .inr (10, [.ref t0, .ref l0, .ref s0, .ref y0, .ref c0, .ref b0, .ref e0, .ref n0, .ref w0, .ref i0, .ref g0, .ref a0, .ref k0, .ref z0, .int 0])), (l0, .inr (5, [.int 0, .int 0, .int 0, .int 3, .int 1, .int 0, .ref l0_jurorName, .ref l0_floorName, .ref l0_caseName, .ref l0_pitch, .ref l0_length, .ref l0_hands, .ref l0_tune, .ref l0_dull, .ref l0_caseFloor, .ref l0_tuned]))] H := hP
  have hD : va_D A [(h0, .inr (10, [.ref t0, .ref l0, .ref s0, .ref y0, .ref c0, .ref b0, .ref e0, .ref n0, .ref w0, .ref i0, .ref g0, .ref a0, .ref k0, .ref z0, .int 0])), (l0, .inr (5, [.int 0, .int 0, .int 0, .int 3, .int 1, .int 0, .ref l0_jurorName, .ref l0_floorName, .ref l0_caseName, .ref l0_pitch, .ref l0_length, .ref l0_hands, .ref l0_tune, .ref l0_dull, .ref l0_caseFloor, .ref l0_tuned]))] := hD
  refine lv_if_eq (tgt := 17) hx hb dX11_tryCase_5 (by decide) (fun _ => ?_) (fun c => absurd (by decide) c)
  refine lv_iconst (v := (-1)) hx hb dX11_tryCase_17 (by decide) ?_
  exact oE_i hx hb hr rfl hlocks hP hD hS () [0, 1] rfl (by decide) rfl (Nat.le_of_ble_eq_true rfl) (Nat.le_of_ble_eq_true rfl) dX11_tryCase_18
theorem dX11_appeal_0 : decode cX11_appeal 0 = .ok (.aload_n 0, 1) := by decide +kernel
theorem dX11_appeal_1 : decode cX11_appeal 1 = .ok (.iload_n 1, 1) := by decide +kernel
theorem dX11_appeal_2 : decode cX11_appeal 2 = .ok (.invokevirtual 164, 3) := by decide +kernel
theorem dX11_appeal_5 : decode cX11_appeal 5 = .ok (.ifCond .eq 13, 3) := by decide +kernel
theorem dX11_appeal_18 : decode cX11_appeal 18 = .ok (.iconst (-1), 1) := by decide +kernel
theorem dX11_appeal_19 : decode cX11_appeal 19 = .ok (.ireturn, 1) := by decide +kernel
set_option maxRecDepth 20000 in
theorem ggX11_appeal_X11_isCase : GoodIn wsX11_appeal wsX11_isCase := goodIn_r _ [5, 6, 7, 102, 103, 104, 105, 106, 107, 108, 109, 110, 111, 112, 113, 114, 115, 116, 117, 118, 119, 120, 121, 122, 123, 124, 125, 126, 127, 128, 129, 130, 131, 132] rfl (by decide +kernel)
set_option maxRecDepth 20000 in
theorem gX11_appeal_X11_isCase : GoodIn wsX11_appeal (wsV RX11 164 RX11 yX11_isCase wsX11_isCase) := goodIn_app (goodIn_of _ (by decide +kernel)) ggX11_appeal_X11_isCase
set_option maxHeartbeats 4000000 in
set_option maxRecDepth 100000 in
theorem c_appeal (l : Launch) (D : va_G) (ca : Nat → ClassId) (sz : Nat) (h0 : Nat) (j0 : Int32) (t0 : Nat) (l0 : Nat) (s0 : Nat) (y0 : Nat) (c0 : Nat) (b0 : Nat) (e0 : Nat) (n0 : Nat) (w0 : Nat) (i0 : Nat) (g0 : Nat) (a0 : Nat) (k0 : Nat) (z0 : Nat) (l0_jurorName : Nat) (l0_floorName : Nat) (l0_caseName : Nat) (l0_pitch : Nat) (l0_length : Nat) (l0_hands : Nat) (l0_tune : Nat) (l0_dull : Nat) (l0_caseFloor : Nat) (l0_tuned : Nat)  : oMet l yX11_appeal wsX11_appeal ({ frames := 1, cells := 0, slots := 0, locals := 21 } : Room) [.ref h0, .int j0] D ca sz [(h0, .inr (10, [.ref t0, .ref l0, .ref s0, .ref y0, .ref c0, .ref b0, .ref e0, .ref n0, .ref w0, .ref i0, .ref g0, .ref a0, .ref k0, .ref z0, .int 0])), (l0, .inr (5, [.int 0, .int 0, .int 0, .int 3, .int 1, .int 0, .ref l0_jurorName, .ref l0_floorName, .ref l0_caseName, .ref l0_pitch, .ref l0_length, .ref l0_hands, .ref l0_tune, .ref l0_dull, .ref l0_caseFloor, .ref l0_tuned]))] (oQi D (fun (r : Int32) (u : Unit) => r = (-1)) (fun (u : Unit) => [(h0, .inr (10, [.ref t0, .ref l0, .ref s0, .ref y0, .ref c0, .ref b0, .ref e0, .ref n0, .ref w0, .ref i0, .ref g0, .ref a0, .ref k0, .ref z0, .int 0])), (l0, .inr (5, [.int 0, .int 0, .int 0, .int 3, .int 1, .int 0, .ref l0_jurorName, .ref l0_floorName, .ref l0_caseName, .ref l0_pitch, .ref l0_length, .ref l0_hands, .ref l0_tune, .ref l0_dull, .ref l0_caseFloor, .ref l0_tuned]))])) 0 0 := by
  refine oM (cc := cX11_appeal) (maxL := 2) (ret := (some .int)) (by decide) rfl (Nat.le_of_ble_eq_true rfl) [(0, .ref h0), (1, .int j0)] rfl ?_
  intro p e s m below meth c A H locs ls hx hb hr hml hts hown hlocks hin hK hP hD hA hS hl
  have hown : s.vm.findClass RX11 = some m.cls := hown
  refine lv_aload_n hx hb dX11_appeal_0 rfl (lv_at hl 0 rfl) ?_
  refine lv_iload_n hx hb dX11_appeal_1 rfl (lv_at hl 1 rfl) ?_
  refine oC_i (Wc := [(h0, .inr (10, [.ref t0, .ref l0, .ref s0, .ref y0, .ref c0, .ref b0, .ref e0, .ref n0, .ref w0, .ref i0, .ref g0, .ref a0, .ref k0, .ref z0, .int 0])), (l0, .inr (5, [.int 0, .int 0, .int 0, .int 3, .int 1, .int 0, .ref l0_jurorName, .ref l0_floorName, .ref l0_caseName, .ref l0_pitch, .ref l0_length, .ref l0_hands, .ref l0_tune, .ref l0_dull, .ref l0_caseFloor, .ref l0_tuned]))]) (Wr := []) (va_runV (As := [.int j0]) (rest := []) ⟨hx, hb, hml, hown, hts⟩ (c_isCase l D ca H.size h0 j0 t0 l0 s0 y0 c0 b0 e0 n0 w0 i0 g0 a0 k0 z0 l0_jurorName l0_floorName l0_caseName l0_pitch l0_length l0_hands l0_tune l0_dull l0_caseFloor l0_tuned) (cwV 1 hts gX11_appeal_X11_isCase rfl rfl rfl (by decide +kernel) ⟨Nat.le_of_ble_eq_true rfl, Nat.le_of_ble_eq_true rfl⟩) (oPV (C := RX11) hK hP hD [0, 1] rfl (by decide) 0 rfl (ci := 10) rfl rfl) rfl rfl hl.1 rfl (lv_room (Nat.le_of_ble_eq_true rfl)) dX11_appeal_2 ⟨Nat.le_of_ble_eq_true rfl, Nat.le_of_ble_eq_true rfl⟩) hP hD hS hA [0, 1] [] rfl rfl (by decide) (by decide) (fun r_1 u H locs w_2 hP hD hS => ?_)
  obtain ⟨⟩ := u
  try dsimp only at w_2
  subst w_2
  have hP : va_P D vwCl [(h0, .inr (10, [.ref t0, .ref l0, .ref s0, .ref y0, .ref c0, .ref b0, .ref e0, .ref n0, .ref w0, .ref i0, .ref g0, .ref a0, .ref k0, .ref z0, .int 0])), (l0, .inr (5, [.int 0, .int 0, .int 0, .int 3, .int 1, .int 0, .ref l0_jurorName, .ref l0_floorName, .ref l0_caseName, .ref l0_pitch, .ref l0_length, .ref l0_hands, .ref l0_tune, .ref l0_dull, .ref l0_caseFloor, .ref l0_tuned]))] H := hP
  have hD : va_D A [(h0, .inr (10, [.ref t0, .ref l0, .ref s0, .ref y0, .ref c0, .ref b0, .ref e0, .ref n0, .ref w0, .ref i0, .ref g0, .ref a0, .ref k0, .ref z0, .int 0])), (l0, .inr (5, [.int 0, .int 0, .int 0, .int 3, .int 1, .int 0, .ref l0_jurorName, .ref l0_floorName, .ref l0_caseName, .ref l0_pitch, .ref l0_length, .ref l0_hands, .ref l0_tune, .ref l0_dull, .ref l0_caseFloor, .ref l0_tuned]))] := hD
  refine lv_if_eq (tgt := 18) hx hb dX11_appeal_5 (by decide) (fun _ => ?_) (fun c => absurd (by decide) c)
  refine lv_iconst (v := (-1)) hx hb dX11_appeal_18 (by decide) ?_
  exact oE_i hx hb hr rfl hlocks hP hD hS () [0, 1] rfl (by decide) rfl (Nat.le_of_ble_eq_true rfl) (Nat.le_of_ble_eq_true rfl) dX11_appeal_19
theorem dX11_roll_0 : decode cX11_roll 0 = .ok (.aload_n 0, 1) := by decide +kernel
theorem dX11_roll_1 : decode cX11_roll 1 = .ok (.iload_n 1, 1) := by decide +kernel
theorem dX11_roll_2 : decode cX11_roll 2 = .ok (.invokevirtual 164, 3) := by decide +kernel
theorem dX11_roll_5 : decode cX11_roll 5 = .ok (.ifCond .ne 5, 3) := by decide +kernel
theorem dX11_roll_8 : decode cX11_roll 8 = .ok (.iconst (-1), 1) := by decide +kernel
theorem dX11_roll_9 : decode cX11_roll 9 = .ok (.ireturn, 1) := by decide +kernel
set_option maxRecDepth 20000 in
theorem ggX11_roll_X11_isCase : GoodIn wsX11_roll wsX11_isCase := goodIn_r _ [11, 2, 12, 83, 84, 85, 86, 87, 88, 89, 90, 91, 92, 93, 94, 95, 96, 97, 98, 99, 100, 101, 102, 103, 104, 105, 106, 107, 108, 109, 110, 111, 112, 113] rfl (by decide +kernel)
set_option maxRecDepth 20000 in
theorem gX11_roll_X11_isCase : GoodIn wsX11_roll (wsV RX11 164 RX11 yX11_isCase wsX11_isCase) := goodIn_app (goodIn_of _ (by decide +kernel)) ggX11_roll_X11_isCase
set_option maxHeartbeats 4000000 in
set_option maxRecDepth 100000 in
theorem c_roll (l : Launch) (D : va_G) (ca : Nat → ClassId) (sz : Nat) (h0 : Nat) (j0 : Int32) (t0 : Nat) (l0 : Nat) (s0 : Nat) (y0 : Nat) (c0 : Nat) (b0 : Nat) (e0 : Nat) (n0 : Nat) (w0 : Nat) (i0 : Nat) (g0 : Nat) (a0 : Nat) (k0 : Nat) (z0 : Nat) (l0_jurorName : Nat) (l0_floorName : Nat) (l0_caseName : Nat) (l0_pitch : Nat) (l0_length : Nat) (l0_hands : Nat) (l0_tune : Nat) (l0_dull : Nat) (l0_caseFloor : Nat) (l0_tuned : Nat)  : oMet l yX11_roll wsX11_roll ({ frames := 1, cells := 0, slots := 0, locals := 21 } : Room) [.ref h0, .int j0] D ca sz [(h0, .inr (10, [.ref t0, .ref l0, .ref s0, .ref y0, .ref c0, .ref b0, .ref e0, .ref n0, .ref w0, .ref i0, .ref g0, .ref a0, .ref k0, .ref z0, .int 0])), (l0, .inr (5, [.int 0, .int 0, .int 0, .int 3, .int 1, .int 0, .ref l0_jurorName, .ref l0_floorName, .ref l0_caseName, .ref l0_pitch, .ref l0_length, .ref l0_hands, .ref l0_tune, .ref l0_dull, .ref l0_caseFloor, .ref l0_tuned]))] (oQi D (fun (r : Int32) (u : Unit) => r = (-1)) (fun (u : Unit) => [(h0, .inr (10, [.ref t0, .ref l0, .ref s0, .ref y0, .ref c0, .ref b0, .ref e0, .ref n0, .ref w0, .ref i0, .ref g0, .ref a0, .ref k0, .ref z0, .int 0])), (l0, .inr (5, [.int 0, .int 0, .int 0, .int 3, .int 1, .int 0, .ref l0_jurorName, .ref l0_floorName, .ref l0_caseName, .ref l0_pitch, .ref l0_length, .ref l0_hands, .ref l0_tune, .ref l0_dull, .ref l0_caseFloor, .ref l0_tuned]))])) 0 0 := by
  refine oM (cc := cX11_roll) (maxL := 3) (ret := (some .int)) (by decide) rfl (Nat.le_of_ble_eq_true rfl) [(0, .ref h0), (1, .int j0)] rfl ?_
  intro p e s m below meth c A H locs ls hx hb hr hml hts hown hlocks hin hK hP hD hA hS hl
  have hown : s.vm.findClass RX11 = some m.cls := hown
  refine lv_aload_n hx hb dX11_roll_0 rfl (lv_at hl 0 rfl) ?_
  refine lv_iload_n hx hb dX11_roll_1 rfl (lv_at hl 1 rfl) ?_
  refine oC_i (Wc := [(h0, .inr (10, [.ref t0, .ref l0, .ref s0, .ref y0, .ref c0, .ref b0, .ref e0, .ref n0, .ref w0, .ref i0, .ref g0, .ref a0, .ref k0, .ref z0, .int 0])), (l0, .inr (5, [.int 0, .int 0, .int 0, .int 3, .int 1, .int 0, .ref l0_jurorName, .ref l0_floorName, .ref l0_caseName, .ref l0_pitch, .ref l0_length, .ref l0_hands, .ref l0_tune, .ref l0_dull, .ref l0_caseFloor, .ref l0_tuned]))]) (Wr := []) (va_runV (As := [.int j0]) (rest := []) ⟨hx, hb, hml, hown, hts⟩ (c_isCase l D ca H.size h0 j0 t0 l0 s0 y0 c0 b0 e0 n0 w0 i0 g0 a0 k0 z0 l0_jurorName l0_floorName l0_caseName l0_pitch l0_length l0_hands l0_tune l0_dull l0_caseFloor l0_tuned) (cwV 1 hts gX11_roll_X11_isCase rfl rfl rfl (by decide +kernel) ⟨Nat.le_of_ble_eq_true rfl, Nat.le_of_ble_eq_true rfl⟩) (oPV (C := RX11) hK hP hD [0, 1] rfl (by decide) 0 rfl (ci := 10) rfl rfl) rfl rfl hl.1 rfl (lv_room (Nat.le_of_ble_eq_true rfl)) dX11_roll_2 ⟨Nat.le_of_ble_eq_true rfl, Nat.le_of_ble_eq_true rfl⟩) hP hD hS hA [0, 1] [] rfl rfl (by decide) (by decide) (fun r_1 u H locs w_2 hP hD hS => ?_)
  obtain ⟨⟩ := u
  try dsimp only at w_2
  subst w_2
  have hP : va_P D vwCl [(h0, .inr (10, [.ref t0, .ref l0, .ref s0, .ref y0, .ref c0, .ref b0, .ref e0, .ref n0, .ref w0, .ref i0, .ref g0, .ref a0, .ref k0, .ref z0, .int 0])), (l0, .inr (5, [.int 0, .int 0, .int 0, .int 3, .int 1, .int 0, .ref l0_jurorName, .ref l0_floorName, .ref l0_caseName, .ref l0_pitch, .ref l0_length, .ref l0_hands, .ref l0_tune, .ref l0_dull, .ref l0_caseFloor, .ref l0_tuned]))] H := hP
  have hD : va_D A [(h0, .inr (10, [.ref t0, .ref l0, .ref s0, .ref y0, .ref c0, .ref b0, .ref e0, .ref n0, .ref w0, .ref i0, .ref g0, .ref a0, .ref k0, .ref z0, .int 0])), (l0, .inr (5, [.int 0, .int 0, .int 0, .int 3, .int 1, .int 0, .ref l0_jurorName, .ref l0_floorName, .ref l0_caseName, .ref l0_pitch, .ref l0_length, .ref l0_hands, .ref l0_tune, .ref l0_dull, .ref l0_caseFloor, .ref l0_tuned]))] := hD
  refine lv_if_ne (tgt := 10) hx hb dX11_roll_5 (by decide) (fun c => absurd (by decide) c) (fun _ => ?_)
  refine lv_iconst (v := (-1)) hx hb dX11_roll_8 (by decide) ?_
  exact oE_i hx hb hr rfl hlocks hP hD hS () [0, 1] rfl (by decide) rfl (Nat.le_of_ble_eq_true rfl) (Nat.le_of_ble_eq_true rfl) dX11_roll_9
theorem dX11_ring_0 : decode cX11_ring 0 = .ok (.aload_n 0, 1) := by decide +kernel
theorem dX11_ring_1 : decode cX11_ring 1 = .ok (.iload_n 1, 1) := by decide +kernel
theorem dX11_ring_2 : decode cX11_ring 2 = .ok (.invokevirtual 137, 3) := by decide +kernel
theorem dX11_ring_5 : decode cX11_ring 5 = .ok (.ifCond .eq 27, 3) := by decide +kernel
theorem dX11_ring_32 : decode cX11_ring 32 = .ok (.iconst (-1), 1) := by decide +kernel
theorem dX11_ring_33 : decode cX11_ring 33 = .ok (.ireturn, 1) := by decide +kernel
set_option maxRecDepth 20000 in
theorem ggX11_ring_X11_isJuror : GoodIn wsX11_ring wsX11_isJuror := goodIn_r _ [7, 2, 8, 33, 34, 35, 36, 37, 38, 39, 40, 41, 42, 43, 44, 45, 46, 47, 48, 49, 50, 51, 52, 53, 54, 55, 56, 57, 58, 59, 60, 61, 62, 63] rfl (by decide +kernel)
set_option maxRecDepth 20000 in
theorem gX11_ring_X11_isJuror : GoodIn wsX11_ring (wsV RX11 137 RX11 yX11_isJuror wsX11_isJuror) := goodIn_app (goodIn_of _ (by decide +kernel)) ggX11_ring_X11_isJuror
set_option maxHeartbeats 4000000 in
set_option maxRecDepth 100000 in
theorem c_ring (l : Launch) (D : va_G) (ca : Nat → ClassId) (sz : Nat) (h0 : Nat) (j0 : Int32) (j1 : Int32) (t0 : Nat) (l0 : Nat) (s0 : Nat) (y0 : Nat) (c0 : Nat) (b0 : Nat) (e0 : Nat) (n0 : Nat) (w0 : Nat) (i0 : Nat) (g0 : Nat) (a0 : Nat) (k0 : Nat) (z0 : Nat) (l0_jurorName : Nat) (l0_floorName : Nat) (l0_caseName : Nat) (l0_pitch : Nat) (l0_length : Nat) (l0_hands : Nat) (l0_tune : Nat) (l0_dull : Nat) (l0_caseFloor : Nat) (l0_tuned : Nat)  : oMet l yX11_ring wsX11_ring ({ frames := 1, cells := 0, slots := 0, locals := 21 } : Room) [.ref h0, .int j0, .int j1] D ca sz [(h0, .inr (10, [.ref t0, .ref l0, .ref s0, .ref y0, .ref c0, .ref b0, .ref e0, .ref n0, .ref w0, .ref i0, .ref g0, .ref a0, .ref k0, .ref z0, .int 0])), (l0, .inr (5, [.int 0, .int 0, .int 0, .int 3, .int 1, .int 0, .ref l0_jurorName, .ref l0_floorName, .ref l0_caseName, .ref l0_pitch, .ref l0_length, .ref l0_hands, .ref l0_tune, .ref l0_dull, .ref l0_caseFloor, .ref l0_tuned]))] (oQi D (fun (r : Int32) (u : Unit) => r = (-1)) (fun (u : Unit) => [(h0, .inr (10, [.ref t0, .ref l0, .ref s0, .ref y0, .ref c0, .ref b0, .ref e0, .ref n0, .ref w0, .ref i0, .ref g0, .ref a0, .ref k0, .ref z0, .int 0])), (l0, .inr (5, [.int 0, .int 0, .int 0, .int 3, .int 1, .int 0, .ref l0_jurorName, .ref l0_floorName, .ref l0_caseName, .ref l0_pitch, .ref l0_length, .ref l0_hands, .ref l0_tune, .ref l0_dull, .ref l0_caseFloor, .ref l0_tuned]))])) 0 0 := by
  refine oM (cc := cX11_ring) (maxL := 3) (ret := (some .int)) (by decide) rfl (Nat.le_of_ble_eq_true rfl) [(0, .ref h0), (1, .int j0), (2, .int j1)] rfl ?_
  intro p e s m below meth c A H locs ls hx hb hr hml hts hown hlocks hin hK hP hD hA hS hl
  have hown : s.vm.findClass RX11 = some m.cls := hown
  refine lv_aload_n hx hb dX11_ring_0 rfl (lv_at hl 0 rfl) ?_
  refine lv_iload_n hx hb dX11_ring_1 rfl (lv_at hl 1 rfl) ?_
  refine oC_i (Wc := [(h0, .inr (10, [.ref t0, .ref l0, .ref s0, .ref y0, .ref c0, .ref b0, .ref e0, .ref n0, .ref w0, .ref i0, .ref g0, .ref a0, .ref k0, .ref z0, .int 0])), (l0, .inr (5, [.int 0, .int 0, .int 0, .int 3, .int 1, .int 0, .ref l0_jurorName, .ref l0_floorName, .ref l0_caseName, .ref l0_pitch, .ref l0_length, .ref l0_hands, .ref l0_tune, .ref l0_dull, .ref l0_caseFloor, .ref l0_tuned]))]) (Wr := []) (va_runV (As := [.int j0]) (rest := []) ⟨hx, hb, hml, hown, hts⟩ (c_isJuror l D ca H.size h0 j0 t0 l0 s0 y0 c0 b0 e0 n0 w0 i0 g0 a0 k0 z0 l0_jurorName l0_floorName l0_caseName l0_pitch l0_length l0_hands l0_tune l0_dull l0_caseFloor l0_tuned) (cwV 1 hts gX11_ring_X11_isJuror rfl rfl rfl (by decide +kernel) ⟨Nat.le_of_ble_eq_true rfl, Nat.le_of_ble_eq_true rfl⟩) (oPV (C := RX11) hK hP hD [0, 1] rfl (by decide) 0 rfl (ci := 10) rfl rfl) rfl rfl hl.1 rfl (lv_room (Nat.le_of_ble_eq_true rfl)) dX11_ring_2 ⟨Nat.le_of_ble_eq_true rfl, Nat.le_of_ble_eq_true rfl⟩) hP hD hS hA [0, 1] [] rfl rfl (by decide) (by decide) (fun r_1 u H locs w_2 hP hD hS => ?_)
  obtain ⟨⟩ := u
  try dsimp only at w_2
  subst w_2
  have hP : va_P D vwCl [(h0, .inr (10, [.ref t0, .ref l0, .ref s0, .ref y0, .ref c0, .ref b0, .ref e0, .ref n0, .ref w0, .ref i0, .ref g0, .ref a0, .ref k0, .ref z0, .int 0])), (l0, .inr (5, [.int 0, .int 0, .int 0, .int 3, .int 1, .int 0, .ref l0_jurorName, .ref l0_floorName, .ref l0_caseName, .ref l0_pitch, .ref l0_length, .ref l0_hands, .ref l0_tune, .ref l0_dull, .ref l0_caseFloor, .ref l0_tuned]))] H := hP
  have hD : va_D A [(h0, .inr (10, [.ref t0, .ref l0, .ref s0, .ref y0, .ref c0, .ref b0, .ref e0, .ref n0, .ref w0, .ref i0, .ref g0, .ref a0, .ref k0, .ref z0, .int 0])), (l0, .inr (5, [.int 0, .int 0, .int 0, .int 3, .int 1, .int 0, .ref l0_jurorName, .ref l0_floorName, .ref l0_caseName, .ref l0_pitch, .ref l0_length, .ref l0_hands, .ref l0_tune, .ref l0_dull, .ref l0_caseFloor, .ref l0_tuned]))] := hD
  refine lv_if_eq (tgt := 32) hx hb dX11_ring_5 (by decide) (fun _ => ?_) (fun c => absurd (by decide) c)
  refine lv_iconst (v := (-1)) hx hb dX11_ring_32 (by decide) ?_
  exact oE_i hx hb hr rfl hlocks hP hD hS () [0, 1] rfl (by decide) rfl (Nat.le_of_ble_eq_true rfl) (Nat.le_of_ble_eq_true rfl) dX11_ring_33
theorem dX11_lasts_0 : decode cX11_lasts 0 = .ok (.aload_n 0, 1) := by decide +kernel
theorem dX11_lasts_1 : decode cX11_lasts 1 = .ok (.iload_n 1, 1) := by decide +kernel
theorem dX11_lasts_2 : decode cX11_lasts 2 = .ok (.invokevirtual 137, 3) := by decide +kernel
theorem dX11_lasts_5 : decode cX11_lasts 5 = .ok (.ifCond .eq 23, 3) := by decide +kernel
theorem dX11_lasts_28 : decode cX11_lasts 28 = .ok (.iconst (-1), 1) := by decide +kernel
theorem dX11_lasts_29 : decode cX11_lasts 29 = .ok (.ireturn, 1) := by decide +kernel
set_option maxRecDepth 20000 in
theorem ggX11_lasts_X11_isJuror : GoodIn wsX11_lasts wsX11_isJuror := goodIn_r _ [6, 1, 7, 24, 25, 26, 27, 28, 29, 30, 31, 32, 33, 34, 35, 36, 37, 38, 39, 40, 41, 42, 43, 44, 45, 46, 47, 48, 49, 50, 51, 52, 53, 54] rfl (by decide +kernel)
set_option maxRecDepth 20000 in
theorem gX11_lasts_X11_isJuror : GoodIn wsX11_lasts (wsV RX11 137 RX11 yX11_isJuror wsX11_isJuror) := goodIn_app (goodIn_of _ (by decide +kernel)) ggX11_lasts_X11_isJuror
set_option maxHeartbeats 4000000 in
set_option maxRecDepth 100000 in
theorem c_lasts (l : Launch) (D : va_G) (ca : Nat → ClassId) (sz : Nat) (h0 : Nat) (j0 : Int32) (j1 : Int32) (t0 : Nat) (l0 : Nat) (s0 : Nat) (y0 : Nat) (c0 : Nat) (b0 : Nat) (e0 : Nat) (n0 : Nat) (w0 : Nat) (i0 : Nat) (g0 : Nat) (a0 : Nat) (k0 : Nat) (z0 : Nat) (l0_jurorName : Nat) (l0_floorName : Nat) (l0_caseName : Nat) (l0_pitch : Nat) (l0_length : Nat) (l0_hands : Nat) (l0_tune : Nat) (l0_dull : Nat) (l0_caseFloor : Nat) (l0_tuned : Nat)  : oMet l yX11_lasts wsX11_lasts ({ frames := 1, cells := 0, slots := 0, locals := 21 } : Room) [.ref h0, .int j0, .int j1] D ca sz [(h0, .inr (10, [.ref t0, .ref l0, .ref s0, .ref y0, .ref c0, .ref b0, .ref e0, .ref n0, .ref w0, .ref i0, .ref g0, .ref a0, .ref k0, .ref z0, .int 0])), (l0, .inr (5, [.int 0, .int 0, .int 0, .int 3, .int 1, .int 0, .ref l0_jurorName, .ref l0_floorName, .ref l0_caseName, .ref l0_pitch, .ref l0_length, .ref l0_hands, .ref l0_tune, .ref l0_dull, .ref l0_caseFloor, .ref l0_tuned]))] (oQi D (fun (r : Int32) (u : Unit) => r = (-1)) (fun (u : Unit) => [(h0, .inr (10, [.ref t0, .ref l0, .ref s0, .ref y0, .ref c0, .ref b0, .ref e0, .ref n0, .ref w0, .ref i0, .ref g0, .ref a0, .ref k0, .ref z0, .int 0])), (l0, .inr (5, [.int 0, .int 0, .int 0, .int 3, .int 1, .int 0, .ref l0_jurorName, .ref l0_floorName, .ref l0_caseName, .ref l0_pitch, .ref l0_length, .ref l0_hands, .ref l0_tune, .ref l0_dull, .ref l0_caseFloor, .ref l0_tuned]))])) 0 0 := by
  refine oM (cc := cX11_lasts) (maxL := 3) (ret := (some .int)) (by decide) rfl (Nat.le_of_ble_eq_true rfl) [(0, .ref h0), (1, .int j0), (2, .int j1)] rfl ?_
  intro p e s m below meth c A H locs ls hx hb hr hml hts hown hlocks hin hK hP hD hA hS hl
  have hown : s.vm.findClass RX11 = some m.cls := hown
  refine lv_aload_n hx hb dX11_lasts_0 rfl (lv_at hl 0 rfl) ?_
  refine lv_iload_n hx hb dX11_lasts_1 rfl (lv_at hl 1 rfl) ?_
  refine oC_i (Wc := [(h0, .inr (10, [.ref t0, .ref l0, .ref s0, .ref y0, .ref c0, .ref b0, .ref e0, .ref n0, .ref w0, .ref i0, .ref g0, .ref a0, .ref k0, .ref z0, .int 0])), (l0, .inr (5, [.int 0, .int 0, .int 0, .int 3, .int 1, .int 0, .ref l0_jurorName, .ref l0_floorName, .ref l0_caseName, .ref l0_pitch, .ref l0_length, .ref l0_hands, .ref l0_tune, .ref l0_dull, .ref l0_caseFloor, .ref l0_tuned]))]) (Wr := []) (va_runV (As := [.int j0]) (rest := []) ⟨hx, hb, hml, hown, hts⟩ (c_isJuror l D ca H.size h0 j0 t0 l0 s0 y0 c0 b0 e0 n0 w0 i0 g0 a0 k0 z0 l0_jurorName l0_floorName l0_caseName l0_pitch l0_length l0_hands l0_tune l0_dull l0_caseFloor l0_tuned) (cwV 1 hts gX11_lasts_X11_isJuror rfl rfl rfl (by decide +kernel) ⟨Nat.le_of_ble_eq_true rfl, Nat.le_of_ble_eq_true rfl⟩) (oPV (C := RX11) hK hP hD [0, 1] rfl (by decide) 0 rfl (ci := 10) rfl rfl) rfl rfl hl.1 rfl (lv_room (Nat.le_of_ble_eq_true rfl)) dX11_lasts_2 ⟨Nat.le_of_ble_eq_true rfl, Nat.le_of_ble_eq_true rfl⟩) hP hD hS hA [0, 1] [] rfl rfl (by decide) (by decide) (fun r_1 u H locs w_2 hP hD hS => ?_)
  obtain ⟨⟩ := u
  try dsimp only at w_2
  subst w_2
  have hP : va_P D vwCl [(h0, .inr (10, [.ref t0, .ref l0, .ref s0, .ref y0, .ref c0, .ref b0, .ref e0, .ref n0, .ref w0, .ref i0, .ref g0, .ref a0, .ref k0, .ref z0, .int 0])), (l0, .inr (5, [.int 0, .int 0, .int 0, .int 3, .int 1, .int 0, .ref l0_jurorName, .ref l0_floorName, .ref l0_caseName, .ref l0_pitch, .ref l0_length, .ref l0_hands, .ref l0_tune, .ref l0_dull, .ref l0_caseFloor, .ref l0_tuned]))] H := hP
  have hD : va_D A [(h0, .inr (10, [.ref t0, .ref l0, .ref s0, .ref y0, .ref c0, .ref b0, .ref e0, .ref n0, .ref w0, .ref i0, .ref g0, .ref a0, .ref k0, .ref z0, .int 0])), (l0, .inr (5, [.int 0, .int 0, .int 0, .int 3, .int 1, .int 0, .ref l0_jurorName, .ref l0_floorName, .ref l0_caseName, .ref l0_pitch, .ref l0_length, .ref l0_hands, .ref l0_tune, .ref l0_dull, .ref l0_caseFloor, .ref l0_tuned]))] := hD
  refine lv_if_eq (tgt := 28) hx hb dX11_lasts_5 (by decide) (fun _ => ?_) (fun c => absurd (by decide) c)
  refine lv_iconst (v := (-1)) hx hb dX11_lasts_28 (by decide) ?_
  exact oE_i hx hb hr rfl hlocks hP hD hS () [0, 1] rfl (by decide) rfl (Nat.le_of_ble_eq_true rfl) (Nat.le_of_ble_eq_true rfl) dX11_lasts_29
theorem dX11_jury_0 : decode cX11_jury 0 = .ok (.aload_n 0, 1) := by decide +kernel
theorem dX11_jury_1 : decode cX11_jury 1 = .ok (.iload_n 1, 1) := by decide +kernel
theorem dX11_jury_2 : decode cX11_jury 2 = .ok (.invokevirtual 164, 3) := by decide +kernel
theorem dX11_jury_5 : decode cX11_jury 5 = .ok (.ifCond .eq 19, 3) := by decide +kernel
theorem dX11_jury_24 : decode cX11_jury 24 = .ok (.iconst (-1), 1) := by decide +kernel
theorem dX11_jury_25 : decode cX11_jury 25 = .ok (.ireturn, 1) := by decide +kernel
set_option maxRecDepth 20000 in
theorem ggX11_jury_X11_isCase : GoodIn wsX11_jury wsX11_isCase := goodIn_r _ [11, 1, 12, 64, 65, 66, 67, 68, 69, 70, 71, 72, 73, 74, 75, 76, 77, 78, 79, 80, 81, 82, 83, 84, 85, 86, 87, 88, 89, 90, 91, 92, 93, 94] rfl (by decide +kernel)
set_option maxRecDepth 20000 in
theorem gX11_jury_X11_isCase : GoodIn wsX11_jury (wsV RX11 164 RX11 yX11_isCase wsX11_isCase) := goodIn_app (goodIn_of _ (by decide +kernel)) ggX11_jury_X11_isCase
set_option maxHeartbeats 4000000 in
set_option maxRecDepth 100000 in
theorem c_jury (l : Launch) (D : va_G) (ca : Nat → ClassId) (sz : Nat) (h0 : Nat) (j0 : Int32) (j1 : Int32) (t0 : Nat) (l0 : Nat) (s0 : Nat) (y0 : Nat) (c0 : Nat) (b0 : Nat) (e0 : Nat) (n0 : Nat) (w0 : Nat) (i0 : Nat) (g0 : Nat) (a0 : Nat) (k0 : Nat) (z0 : Nat) (l0_jurorName : Nat) (l0_floorName : Nat) (l0_caseName : Nat) (l0_pitch : Nat) (l0_length : Nat) (l0_hands : Nat) (l0_tune : Nat) (l0_dull : Nat) (l0_caseFloor : Nat) (l0_tuned : Nat)  : oMet l yX11_jury wsX11_jury ({ frames := 1, cells := 0, slots := 0, locals := 21 } : Room) [.ref h0, .int j0, .int j1] D ca sz [(h0, .inr (10, [.ref t0, .ref l0, .ref s0, .ref y0, .ref c0, .ref b0, .ref e0, .ref n0, .ref w0, .ref i0, .ref g0, .ref a0, .ref k0, .ref z0, .int 0])), (l0, .inr (5, [.int 0, .int 0, .int 0, .int 3, .int 1, .int 0, .ref l0_jurorName, .ref l0_floorName, .ref l0_caseName, .ref l0_pitch, .ref l0_length, .ref l0_hands, .ref l0_tune, .ref l0_dull, .ref l0_caseFloor, .ref l0_tuned]))] (oQi D (fun (r : Int32) (u : Unit) => r = (-1)) (fun (u : Unit) => [(h0, .inr (10, [.ref t0, .ref l0, .ref s0, .ref y0, .ref c0, .ref b0, .ref e0, .ref n0, .ref w0, .ref i0, .ref g0, .ref a0, .ref k0, .ref z0, .int 0])), (l0, .inr (5, [.int 0, .int 0, .int 0, .int 3, .int 1, .int 0, .ref l0_jurorName, .ref l0_floorName, .ref l0_caseName, .ref l0_pitch, .ref l0_length, .ref l0_hands, .ref l0_tune, .ref l0_dull, .ref l0_caseFloor, .ref l0_tuned]))])) 0 0 := by
  refine oM (cc := cX11_jury) (maxL := 3) (ret := (some .int)) (by decide) rfl (Nat.le_of_ble_eq_true rfl) [(0, .ref h0), (1, .int j0), (2, .int j1)] rfl ?_
  intro p e s m below meth c A H locs ls hx hb hr hml hts hown hlocks hin hK hP hD hA hS hl
  have hown : s.vm.findClass RX11 = some m.cls := hown
  refine lv_aload_n hx hb dX11_jury_0 rfl (lv_at hl 0 rfl) ?_
  refine lv_iload_n hx hb dX11_jury_1 rfl (lv_at hl 1 rfl) ?_
  refine oC_i (Wc := [(h0, .inr (10, [.ref t0, .ref l0, .ref s0, .ref y0, .ref c0, .ref b0, .ref e0, .ref n0, .ref w0, .ref i0, .ref g0, .ref a0, .ref k0, .ref z0, .int 0])), (l0, .inr (5, [.int 0, .int 0, .int 0, .int 3, .int 1, .int 0, .ref l0_jurorName, .ref l0_floorName, .ref l0_caseName, .ref l0_pitch, .ref l0_length, .ref l0_hands, .ref l0_tune, .ref l0_dull, .ref l0_caseFloor, .ref l0_tuned]))]) (Wr := []) (va_runV (As := [.int j0]) (rest := []) ⟨hx, hb, hml, hown, hts⟩ (c_isCase l D ca H.size h0 j0 t0 l0 s0 y0 c0 b0 e0 n0 w0 i0 g0 a0 k0 z0 l0_jurorName l0_floorName l0_caseName l0_pitch l0_length l0_hands l0_tune l0_dull l0_caseFloor l0_tuned) (cwV 1 hts gX11_jury_X11_isCase rfl rfl rfl (by decide +kernel) ⟨Nat.le_of_ble_eq_true rfl, Nat.le_of_ble_eq_true rfl⟩) (oPV (C := RX11) hK hP hD [0, 1] rfl (by decide) 0 rfl (ci := 10) rfl rfl) rfl rfl hl.1 rfl (lv_room (Nat.le_of_ble_eq_true rfl)) dX11_jury_2 ⟨Nat.le_of_ble_eq_true rfl, Nat.le_of_ble_eq_true rfl⟩) hP hD hS hA [0, 1] [] rfl rfl (by decide) (by decide) (fun r_1 u H locs w_2 hP hD hS => ?_)
  obtain ⟨⟩ := u
  try dsimp only at w_2
  subst w_2
  have hP : va_P D vwCl [(h0, .inr (10, [.ref t0, .ref l0, .ref s0, .ref y0, .ref c0, .ref b0, .ref e0, .ref n0, .ref w0, .ref i0, .ref g0, .ref a0, .ref k0, .ref z0, .int 0])), (l0, .inr (5, [.int 0, .int 0, .int 0, .int 3, .int 1, .int 0, .ref l0_jurorName, .ref l0_floorName, .ref l0_caseName, .ref l0_pitch, .ref l0_length, .ref l0_hands, .ref l0_tune, .ref l0_dull, .ref l0_caseFloor, .ref l0_tuned]))] H := hP
  have hD : va_D A [(h0, .inr (10, [.ref t0, .ref l0, .ref s0, .ref y0, .ref c0, .ref b0, .ref e0, .ref n0, .ref w0, .ref i0, .ref g0, .ref a0, .ref k0, .ref z0, .int 0])), (l0, .inr (5, [.int 0, .int 0, .int 0, .int 3, .int 1, .int 0, .ref l0_jurorName, .ref l0_floorName, .ref l0_caseName, .ref l0_pitch, .ref l0_length, .ref l0_hands, .ref l0_tune, .ref l0_dull, .ref l0_caseFloor, .ref l0_tuned]))] := hD
  refine lv_if_eq (tgt := 24) hx hb dX11_jury_5 (by decide) (fun _ => ?_) (fun c => absurd (by decide) c)
  refine lv_iconst (v := (-1)) hx hb dX11_jury_24 (by decide) ?_
  exact oE_i hx hb hr rfl hlocks hP hD hS () [0, 1] rfl (by decide) rfl (Nat.le_of_ble_eq_true rfl) (Nat.le_of_ble_eq_true rfl) dX11_jury_25
theorem dX11_agree_0 : decode cX11_agree 0 = .ok (.aload_n 0, 1) := by decide +kernel
theorem dX11_agree_1 : decode cX11_agree 1 = .ok (.getfield 19, 3) := by decide +kernel
theorem dX11_agree_4 : decode cX11_agree 4 = .ok (.getfield 240, 3) := by decide +kernel
theorem dX11_agree_7 : decode cX11_agree 7 = .ok (.ifCond .eq 11, 3) := by decide +kernel
theorem dX11_agree_18 : decode cX11_agree 18 = .ok (.iconst (-1), 1) := by decide +kernel
theorem dX11_agree_19 : decode cX11_agree 19 = .ok (.ireturn, 1) := by decide +kernel
set_option maxHeartbeats 4000000 in
set_option maxRecDepth 100000 in
theorem c_agree (l : Launch) (D : va_G) (ca : Nat → ClassId) (sz : Nat) (h0 : Nat) (j0 : Int32) (t0 : Nat) (l0 : Nat) (s0 : Nat) (y0 : Nat) (c0 : Nat) (b0 : Nat) (e0 : Nat) (n0 : Nat) (w0 : Nat) (i0 : Nat) (g0 : Nat) (a0 : Nat) (k0 : Nat) (z0 : Nat) (l0_jurorName : Nat) (l0_floorName : Nat) (l0_caseName : Nat) (l0_pitch : Nat) (l0_length : Nat) (l0_hands : Nat) (l0_tune : Nat) (l0_dull : Nat) (l0_caseFloor : Nat) (l0_tuned : Nat)  : oMet l yX11_agree wsX11_agree ({ frames := 0, cells := 0, slots := 0, locals := 0 } : Room) [.ref h0, .int j0] D ca sz [(h0, .inr (10, [.ref t0, .ref l0, .ref s0, .ref y0, .ref c0, .ref b0, .ref e0, .ref n0, .ref w0, .ref i0, .ref g0, .ref a0, .ref k0, .ref z0, .int 0])), (l0, .inr (5, [.int 0, .int 0, .int 0, .int 3, .int 1, .int 0, .ref l0_jurorName, .ref l0_floorName, .ref l0_caseName, .ref l0_pitch, .ref l0_length, .ref l0_hands, .ref l0_tune, .ref l0_dull, .ref l0_caseFloor, .ref l0_tuned]))] (oQi D (fun (r : Int32) (u : Unit) => r = (-1)) (fun (u : Unit) => [(h0, .inr (10, [.ref t0, .ref l0, .ref s0, .ref y0, .ref c0, .ref b0, .ref e0, .ref n0, .ref w0, .ref i0, .ref g0, .ref a0, .ref k0, .ref z0, .int 0])), (l0, .inr (5, [.int 0, .int 0, .int 0, .int 3, .int 1, .int 0, .ref l0_jurorName, .ref l0_floorName, .ref l0_caseName, .ref l0_pitch, .ref l0_length, .ref l0_hands, .ref l0_tune, .ref l0_dull, .ref l0_caseFloor, .ref l0_tuned]))])) 0 0 := by
  refine oM (cc := cX11_agree) (maxL := 2) (ret := (some .int)) (by decide) rfl (Nat.le_of_ble_eq_true rfl) [(0, .ref h0), (1, .int j0)] rfl ?_
  intro p e s m below meth c A H locs ls hx hb hr hml hts hown hlocks hin hK hP hD hA hS hl
  have hown : s.vm.findClass RX11 = some m.cls := hown
  have k1 := hts (.fieldLink RX11 19 "LidCourt" "law" "LLidCourt$Law;") (by decide +kernel)
  have k2 : ∀ w ∈ wsX110, w ∈ wsX11_agree := fun _ h => List.mem_cons_of_mem _ (List.mem_append_left _ (List.mem_append_left _ (List.mem_append_left _ (List.mem_append_right _ h))))
  have k3 := hts (.fieldLink RX11 240 "LidCourt$Law" "jurors" "I") (by decide +kernel)
  have k4 : ∀ w ∈ wsX50, w ∈ wsX11_agree := fun _ h => List.mem_cons_of_mem _ (List.mem_append_left _ (List.mem_append_left _ (List.mem_append_right _ h)))
  refine lv_aload_n hx hb dX11_agree_0 rfl (lv_at hl 0 rfl) ?_
  refine va_get (D := D) (ci := 10) (v := .ref l0) (C := RX11) (T := TX11) (N := 15) hx hb hts k2 hown hK.1 hP 0 rfl rfl 1 (by decide) k1 (fun _ h9 => h9) rfl dX11_agree_1 ?_
  refine va_get (D := D) (ci := 5) (v := .int 0) (C := RX5) (T := TX5) (N := 16) hx hb hts k4 hown hK.1 hP 1 rfl rfl 0 (by decide) k3 (fun _ h9 => h9) rfl dX11_agree_4 ?_
  refine lv_if_eq (tgt := 18) hx hb dX11_agree_7 (by decide) (fun _ => ?_) (fun c => absurd (by decide) c)
  refine lv_iconst (v := (-1)) hx hb dX11_agree_18 (by decide) ?_
  exact oE_i hx hb hr rfl hlocks hP hD hS () [0, 1] rfl (by decide) rfl (Nat.le_of_ble_eq_true rfl) (Nat.le_of_ble_eq_true rfl) dX11_agree_19
theorem dX11_odds_0 : decode cX11_odds 0 = .ok (.aload_n 0, 1) := by decide +kernel
theorem dX11_odds_1 : decode cX11_odds 1 = .ok (.iload_n 1, 1) := by decide +kernel
theorem dX11_odds_2 : decode cX11_odds 2 = .ok (.invokevirtual 164, 3) := by decide +kernel
theorem dX11_odds_5 : decode cX11_odds 5 = .ok (.ifCond .eq 24, 3) := by decide +kernel
theorem dX11_odds_29 : decode cX11_odds 29 = .ok (.iconst (-1), 1) := by decide +kernel
theorem dX11_odds_30 : decode cX11_odds 30 = .ok (.ireturn, 1) := by decide +kernel
set_option maxRecDepth 20000 in
theorem ggX11_odds_X11_isCase : GoodIn wsX11_odds wsX11_isCase := goodIn_r _ [14, 1, 15, 101, 102, 103, 104, 105, 106, 107, 108, 109, 110, 111, 112, 113, 114, 115, 116, 117, 118, 119, 120, 121, 122, 123, 124, 125, 126, 127, 128, 129, 130, 131] rfl (by decide +kernel)
set_option maxRecDepth 20000 in
theorem gX11_odds_X11_isCase : GoodIn wsX11_odds (wsV RX11 164 RX11 yX11_isCase wsX11_isCase) := goodIn_app (goodIn_of _ (by decide +kernel)) ggX11_odds_X11_isCase
set_option maxHeartbeats 4000000 in
set_option maxRecDepth 100000 in
theorem c_odds (l : Launch) (D : va_G) (ca : Nat → ClassId) (sz : Nat) (h0 : Nat) (j0 : Int32) (j1 : Int32) (j2 : Int32) (t0 : Nat) (l0 : Nat) (s0 : Nat) (y0 : Nat) (c0 : Nat) (b0 : Nat) (e0 : Nat) (n0 : Nat) (w0 : Nat) (i0 : Nat) (g0 : Nat) (a0 : Nat) (k0 : Nat) (z0 : Nat) (l0_jurorName : Nat) (l0_floorName : Nat) (l0_caseName : Nat) (l0_pitch : Nat) (l0_length : Nat) (l0_hands : Nat) (l0_tune : Nat) (l0_dull : Nat) (l0_caseFloor : Nat) (l0_tuned : Nat)  : oMet l yX11_odds wsX11_odds ({ frames := 1, cells := 0, slots := 0, locals := 21 } : Room) [.ref h0, .int j0, .int j1, .int j2] D ca sz [(h0, .inr (10, [.ref t0, .ref l0, .ref s0, .ref y0, .ref c0, .ref b0, .ref e0, .ref n0, .ref w0, .ref i0, .ref g0, .ref a0, .ref k0, .ref z0, .int 0])), (l0, .inr (5, [.int 0, .int 0, .int 0, .int 3, .int 1, .int 0, .ref l0_jurorName, .ref l0_floorName, .ref l0_caseName, .ref l0_pitch, .ref l0_length, .ref l0_hands, .ref l0_tune, .ref l0_dull, .ref l0_caseFloor, .ref l0_tuned]))] (oQi D (fun (r : Int32) (u : Unit) => r = (-1)) (fun (u : Unit) => [(h0, .inr (10, [.ref t0, .ref l0, .ref s0, .ref y0, .ref c0, .ref b0, .ref e0, .ref n0, .ref w0, .ref i0, .ref g0, .ref a0, .ref k0, .ref z0, .int 0])), (l0, .inr (5, [.int 0, .int 0, .int 0, .int 3, .int 1, .int 0, .ref l0_jurorName, .ref l0_floorName, .ref l0_caseName, .ref l0_pitch, .ref l0_length, .ref l0_hands, .ref l0_tune, .ref l0_dull, .ref l0_caseFloor, .ref l0_tuned]))])) 0 0 := by
  refine oM (cc := cX11_odds) (maxL := 6) (ret := (some .int)) (by decide) rfl (Nat.le_of_ble_eq_true rfl) [(0, .ref h0), (1, .int j0), (2, .int j1), (3, .int j2)] rfl ?_
  intro p e s m below meth c A H locs ls hx hb hr hml hts hown hlocks hin hK hP hD hA hS hl
  have hown : s.vm.findClass RX11 = some m.cls := hown
  refine lv_aload_n hx hb dX11_odds_0 rfl (lv_at hl 0 rfl) ?_
  refine lv_iload_n hx hb dX11_odds_1 rfl (lv_at hl 1 rfl) ?_
  refine oC_i (Wc := [(h0, .inr (10, [.ref t0, .ref l0, .ref s0, .ref y0, .ref c0, .ref b0, .ref e0, .ref n0, .ref w0, .ref i0, .ref g0, .ref a0, .ref k0, .ref z0, .int 0])), (l0, .inr (5, [.int 0, .int 0, .int 0, .int 3, .int 1, .int 0, .ref l0_jurorName, .ref l0_floorName, .ref l0_caseName, .ref l0_pitch, .ref l0_length, .ref l0_hands, .ref l0_tune, .ref l0_dull, .ref l0_caseFloor, .ref l0_tuned]))]) (Wr := []) (va_runV (As := [.int j0]) (rest := []) ⟨hx, hb, hml, hown, hts⟩ (c_isCase l D ca H.size h0 j0 t0 l0 s0 y0 c0 b0 e0 n0 w0 i0 g0 a0 k0 z0 l0_jurorName l0_floorName l0_caseName l0_pitch l0_length l0_hands l0_tune l0_dull l0_caseFloor l0_tuned) (cwV 1 hts gX11_odds_X11_isCase rfl rfl rfl (by decide +kernel) ⟨Nat.le_of_ble_eq_true rfl, Nat.le_of_ble_eq_true rfl⟩) (oPV (C := RX11) hK hP hD [0, 1] rfl (by decide) 0 rfl (ci := 10) rfl rfl) rfl rfl hl.1 rfl (lv_room (Nat.le_of_ble_eq_true rfl)) dX11_odds_2 ⟨Nat.le_of_ble_eq_true rfl, Nat.le_of_ble_eq_true rfl⟩) hP hD hS hA [0, 1] [] rfl rfl (by decide) (by decide) (fun r_1 u H locs w_2 hP hD hS => ?_)
  obtain ⟨⟩ := u
  try dsimp only at w_2
  subst w_2
  have hP : va_P D vwCl [(h0, .inr (10, [.ref t0, .ref l0, .ref s0, .ref y0, .ref c0, .ref b0, .ref e0, .ref n0, .ref w0, .ref i0, .ref g0, .ref a0, .ref k0, .ref z0, .int 0])), (l0, .inr (5, [.int 0, .int 0, .int 0, .int 3, .int 1, .int 0, .ref l0_jurorName, .ref l0_floorName, .ref l0_caseName, .ref l0_pitch, .ref l0_length, .ref l0_hands, .ref l0_tune, .ref l0_dull, .ref l0_caseFloor, .ref l0_tuned]))] H := hP
  have hD : va_D A [(h0, .inr (10, [.ref t0, .ref l0, .ref s0, .ref y0, .ref c0, .ref b0, .ref e0, .ref n0, .ref w0, .ref i0, .ref g0, .ref a0, .ref k0, .ref z0, .int 0])), (l0, .inr (5, [.int 0, .int 0, .int 0, .int 3, .int 1, .int 0, .ref l0_jurorName, .ref l0_floorName, .ref l0_caseName, .ref l0_pitch, .ref l0_length, .ref l0_hands, .ref l0_tune, .ref l0_dull, .ref l0_caseFloor, .ref l0_tuned]))] := hD
  refine lv_if_eq (tgt := 29) hx hb dX11_odds_5 (by decide) (fun _ => ?_) (fun c => absurd (by decide) c)
  refine lv_iconst (v := (-1)) hx hb dX11_odds_29 (by decide) ?_
  exact oE_i hx hb hr rfl hlocks hP hD hS () [0, 1] rfl (by decide) rfl (Nat.le_of_ble_eq_true rfl) (Nat.le_of_ble_eq_true rfl) dX11_odds_30
theorem dX11_drawn_0 : decode cX11_drawn 0 = .ok (.iload_n 1, 1) := by decide +kernel
theorem dX11_drawn_1 : decode cX11_drawn 1 = .ok (.iconst 1, 1) := by decide +kernel
theorem dX11_drawn_2 : decode cX11_drawn 2 = .ok (.if_icmp .lt 19, 3) := by decide +kernel
theorem dX11_drawn_5 : decode cX11_drawn 5 = .ok (.iload_n 1, 1) := by decide +kernel
theorem dX11_drawn_6 : decode cX11_drawn 6 = .ok (.bipush 60, 2) := by decide +kernel
theorem dX11_drawn_8 : decode cX11_drawn 8 = .ok (.if_icmp .gt 13, 3) := by decide +kernel
theorem dX11_drawn_11 : decode cX11_drawn 11 = .ok (.aload_n 0, 1) := by decide +kernel
theorem dX11_drawn_12 : decode cX11_drawn 12 = .ok (.getfield 19, 3) := by decide +kernel
theorem dX11_drawn_15 : decode cX11_drawn 15 = .ok (.getfield 240, 3) := by decide +kernel
theorem dX11_drawn_18 : decode cX11_drawn 18 = .ok (.ifCond .ne 5, 3) := by decide +kernel
theorem dX11_drawn_21 : decode cX11_drawn 21 = .ok (.iconst (-1), 1) := by decide +kernel
theorem dX11_drawn_22 : decode cX11_drawn 22 = .ok (.ireturn, 1) := by decide +kernel
set_option maxHeartbeats 4000000 in
set_option maxRecDepth 100000 in
theorem c_drawn (l : Launch) (D : va_G) (ca : Nat → ClassId) (sz : Nat) (h0 : Nat) (j0 : Int32) (j1 : Int32) (t0 : Nat) (l0 : Nat) (s0 : Nat) (y0 : Nat) (c0 : Nat) (b0 : Nat) (e0 : Nat) (n0 : Nat) (w0 : Nat) (i0 : Nat) (g0 : Nat) (a0 : Nat) (k0 : Nat) (z0 : Nat) (l0_jurorName : Nat) (l0_floorName : Nat) (l0_caseName : Nat) (l0_pitch : Nat) (l0_length : Nat) (l0_hands : Nat) (l0_tune : Nat) (l0_dull : Nat) (l0_caseFloor : Nat) (l0_tuned : Nat)  : oMet l yX11_drawn wsX11_drawn ({ frames := 0, cells := 0, slots := 0, locals := 0 } : Room) [.ref h0, .int j0, .int j1] D ca sz [(h0, .inr (10, [.ref t0, .ref l0, .ref s0, .ref y0, .ref c0, .ref b0, .ref e0, .ref n0, .ref w0, .ref i0, .ref g0, .ref a0, .ref k0, .ref z0, .int 0])), (l0, .inr (5, [.int 0, .int 0, .int 0, .int 3, .int 1, .int 0, .ref l0_jurorName, .ref l0_floorName, .ref l0_caseName, .ref l0_pitch, .ref l0_length, .ref l0_hands, .ref l0_tune, .ref l0_dull, .ref l0_caseFloor, .ref l0_tuned]))] (oQi D (fun (r : Int32) (u : Unit) => r = (-1)) (fun (u : Unit) => [(h0, .inr (10, [.ref t0, .ref l0, .ref s0, .ref y0, .ref c0, .ref b0, .ref e0, .ref n0, .ref w0, .ref i0, .ref g0, .ref a0, .ref k0, .ref z0, .int 0])), (l0, .inr (5, [.int 0, .int 0, .int 0, .int 3, .int 1, .int 0, .ref l0_jurorName, .ref l0_floorName, .ref l0_caseName, .ref l0_pitch, .ref l0_length, .ref l0_hands, .ref l0_tune, .ref l0_dull, .ref l0_caseFloor, .ref l0_tuned]))])) 0 0 := by
  refine oM (cc := cX11_drawn) (maxL := 4) (ret := (some .int)) (by decide) rfl (Nat.le_of_ble_eq_true rfl) [(0, .ref h0), (1, .int j0), (2, .int j1)] rfl ?_
  intro p e s m below meth c A H locs ls hx hb hr hml hts hown hlocks hin hK hP hD hA hS hl
  have hown : s.vm.findClass RX11 = some m.cls := hown
  have k1 := hts (.fieldLink RX11 19 "LidCourt" "law" "LLidCourt$Law;") (by decide +kernel)
  have k2 : ∀ w ∈ wsX110, w ∈ wsX11_drawn := fun _ h => List.mem_cons_of_mem _ (List.mem_append_left _ (List.mem_append_left _ (List.mem_append_left _ (List.mem_append_right _ h))))
  have k3 := hts (.fieldLink RX11 240 "LidCourt$Law" "jurors" "I") (by decide +kernel)
  have k4 : ∀ w ∈ wsX50, w ∈ wsX11_drawn := fun _ h => List.mem_cons_of_mem _ (List.mem_append_left _ (List.mem_append_left _ (List.mem_append_right _ h)))
  refine lv_iload_n hx hb dX11_drawn_0 rfl (lv_at hl 1 rfl) ?_
  refine lv_iconst (v := 1) hx hb dX11_drawn_1 (by decide) ?_
  refine lv_icmp_lt (tgt := 21) hx hb dX11_drawn_2 (by decide) (fun c_1 => ?_) (fun c_1 => ?_)
  · skip
    refine lv_iconst (v := (-1)) hx hb dX11_drawn_21 (by decide) ?_
    exact oE_i hx hb hr rfl hlocks hP hD hS () [0, 1] rfl (by decide) rfl (Nat.le_of_ble_eq_true rfl) (Nat.le_of_ble_eq_true rfl) dX11_drawn_22
  · skip
    refine lv_iload_n hx hb dX11_drawn_5 rfl (lv_at hl 1 rfl) ?_
    refine lv_bipush (v := 60) hx hb dX11_drawn_6 (by decide) ?_
    refine lv_icmp_gt (tgt := 21) hx hb dX11_drawn_8 (by decide) (fun c_2 => ?_) (fun c_2 => ?_)
    · skip
      refine lv_iconst (v := (-1)) hx hb dX11_drawn_21 (by decide) ?_
      exact oE_i hx hb hr rfl hlocks hP hD hS () [0, 1] rfl (by decide) rfl (Nat.le_of_ble_eq_true rfl) (Nat.le_of_ble_eq_true rfl) dX11_drawn_22
    · skip
      refine lv_aload_n hx hb dX11_drawn_11 rfl (lv_at hl 0 rfl) ?_
      refine va_get (D := D) (ci := 10) (v := .ref l0) (C := RX11) (T := TX11) (N := 15) hx hb hts k2 hown hK.1 hP 0 rfl rfl 1 (by decide) k1 (fun _ h9 => h9) rfl dX11_drawn_12 ?_
      refine va_get (D := D) (ci := 5) (v := .int 0) (C := RX5) (T := TX5) (N := 16) hx hb hts k4 hown hK.1 hP 1 rfl rfl 0 (by decide) k3 (fun _ h9 => h9) rfl dX11_drawn_15 ?_
      refine lv_if_ne (tgt := 23) hx hb dX11_drawn_18 (by decide) (fun c => absurd (by decide) c) (fun _ => ?_)
      refine lv_iconst (v := (-1)) hx hb dX11_drawn_21 (by decide) ?_
      exact oE_i hx hb hr rfl hlocks hP hD hS () [0, 1] rfl (by decide) rfl (Nat.le_of_ble_eq_true rfl) (Nat.le_of_ble_eq_true rfl) dX11_drawn_22
theorem dX11_fault_0 : decode cX11_fault 0 = .ok (.aload_n 0, 1) := by decide +kernel
theorem dX11_fault_1 : decode cX11_fault 1 = .ok (.getfield 10, 3) := by decide +kernel
theorem dX11_fault_4 : decode cX11_fault 4 = .ok (.getfield 134, 3) := by decide +kernel
theorem dX11_fault_7 : decode cX11_fault 7 = .ok (.ireturn, 1) := by decide +kernel
set_option maxHeartbeats 4000000 in
set_option maxRecDepth 100000 in
theorem c_fault (l : Launch) (D : va_G) (ca : Nat → ClassId) (sz : Nat) (h0 : Nat) (t0 : Nat) (l0 : Nat) (s0 : Nat) (y0 : Nat) (c0 : Nat) (b0 : Nat) (e0 : Nat) (n0 : Nat) (w0 : Nat) (i0 : Nat) (g0 : Nat) (a0 : Nat) (k0 : Nat) (z0 : Nat) (r_bytes : Nat) (r_length : Int32) (r_faultAt : Int32) (r_letters : Int64) (r_mostBytes : Int32) (r_behind : Int32) (r_at : Int32) (r_kind : Int32) (r_number : Int32)  : oMet l yX11_fault wsX11_fault ({ frames := 0, cells := 0, slots := 0, locals := 0 } : Room) [.ref h0] D ca sz [(h0, .inr (10, [.ref t0, .ref l0, .ref s0, .ref y0, .ref c0, .ref b0, .ref e0, .ref n0, .ref w0, .ref i0, .ref g0, .ref a0, .ref k0, .ref z0, .int 0])), (t0, .inr (6, [.ref r_bytes, .int r_length, .int 0, .int r_faultAt, .long r_letters, .int r_mostBytes, .int r_behind, .int r_at, .int r_kind, .int r_number]))] (oQi D (fun (r : Int32) (u : Unit) => r = 0) (fun (u : Unit) => [(h0, .inr (10, [.ref t0, .ref l0, .ref s0, .ref y0, .ref c0, .ref b0, .ref e0, .ref n0, .ref w0, .ref i0, .ref g0, .ref a0, .ref k0, .ref z0, .int 0])), (t0, .inr (6, [.ref r_bytes, .int r_length, .int 0, .int r_faultAt, .long r_letters, .int r_mostBytes, .int r_behind, .int r_at, .int r_kind, .int r_number]))])) 0 0 := by
  refine oM (cc := cX11_fault) (maxL := 1) (ret := (some .int)) (by decide) rfl (Nat.le_of_ble_eq_true rfl) [(0, .ref h0)] rfl ?_
  intro p e s m below meth c A H locs ls hx hb hr hml hts hown hlocks hin hK hP hD hA hS hl
  have hown : s.vm.findClass RX11 = some m.cls := hown
  have k1 := hts (.fieldLink RX11 10 "LidCourt" "tape" "LLidCourt$Reader;") (by decide +kernel)
  have k2 : ∀ w ∈ wsX110, w ∈ wsX11_fault := fun _ h => List.mem_cons_of_mem _ (List.mem_append_left _ (List.mem_append_right _ h))
  have k3 := hts (.fieldLink RX11 134 "LidCourt$Reader" "faultKind" "I") (by decide +kernel)
  have k4 : ∀ w ∈ wsX60, w ∈ wsX11_fault := fun _ h => List.mem_cons_of_mem _ (List.mem_append_right _ h)
  refine lv_aload_n hx hb dX11_fault_0 rfl (lv_at hl 0 rfl) ?_
  refine va_get (D := D) (ci := 10) (v := .ref t0) (C := RX11) (T := TX11) (N := 15) hx hb hts k2 hown hK.1 hP 0 rfl rfl 0 (by decide) k1 (fun _ h9 => h9) rfl dX11_fault_1 ?_
  refine va_get (D := D) (ci := 6) (v := .int 0) (C := RX6) (T := TX6) (N := 10) hx hb hts k4 hown hK.1 hP 1 rfl rfl 2 (by decide) k3 (fun _ h9 => h9) rfl dX11_fault_4 ?_
  exact oE_i hx hb hr rfl hlocks hP hD hS () [0, 1] rfl (by decide) rfl (Nat.le_of_ble_eq_true rfl) (Nat.le_of_ble_eq_true rfl) dX11_fault_7
theorem dX9_droppers_0 : decode cX9_droppers 0 = .ok (.aload_n 0, 1) := by decide +kernel
theorem dX9_droppers_1 : decode cX9_droppers 1 = .ok (.getfield 39, 3) := by decide +kernel
theorem dX9_droppers_4 : decode cX9_droppers 4 = .ok (.aload_n 0, 1) := by decide +kernel
theorem dX9_droppers_5 : decode cX9_droppers 5 = .ok (.getfield 42, 3) := by decide +kernel
theorem dX9_droppers_8 : decode cX9_droppers 8 = .ok (.iconst (-1), 1) := by decide +kernel
theorem dX9_droppers_9 : decode cX9_droppers 9 = .ok (.ixor, 1) := by decide +kernel
theorem dX9_droppers_10 : decode cX9_droppers 10 = .ok (.iand, 1) := by decide +kernel
theorem dX9_droppers_11 : decode cX9_droppers 11 = .ok (.ireturn, 1) := by decide +kernel
set_option maxHeartbeats 4000000 in
set_option maxRecDepth 100000 in
theorem c_droppers (l : Launch) (D : va_G) (ca : Nat → ClassId) (sz : Nat) (h0 : Nat) (h0_dents : Nat) (h0_drops : Nat) (h0_how : Nat) (h0_triedOn : Nat) (h0_dropped : Nat) (h0_heldOn : Nat)  : oMet l yX9_droppers wsX9_droppers ({ frames := 0, cells := 0, slots := 0, locals := 0 } : Room) [.ref h0] D ca sz [(h0, .inr (9, [.int 0, .int 0, .int 0, .int 0, .int 0, .ref h0_dents, .ref h0_drops, .ref h0_how, .ref h0_triedOn, .ref h0_dropped, .ref h0_heldOn]))] (oQi D (fun (r : Int32) (u : Unit) => r = 0) (fun (u : Unit) => [(h0, .inr (9, [.int 0, .int 0, .int 0, .int 0, .int 0, .ref h0_dents, .ref h0_drops, .ref h0_how, .ref h0_triedOn, .ref h0_dropped, .ref h0_heldOn]))])) 0 0 := by
  refine oM (cc := cX9_droppers) (maxL := 1) (ret := (some .int)) (by decide) rfl (Nat.le_of_ble_eq_true rfl) [(0, .ref h0)] rfl ?_
  intro p e s m below meth c A H locs ls hx hb hr hml hts hown hlocks hin hK hP hD hA hS hl
  have hown : s.vm.findClass RX9 = some m.cls := hown
  have k1 := hts (.fieldLink RX9 39 "LidCourt$Standing" "sits" "I") (by decide +kernel)
  have k2 : ∀ w ∈ wsX90, w ∈ wsX9_droppers := fun _ h => List.mem_cons_of_mem _ (List.mem_append_right _ h)
  have k3 := hts (.fieldLink RX9 42 "LidCourt$Standing" "holds" "I") (by decide +kernel)
  refine lv_aload_n hx hb dX9_droppers_0 rfl (lv_at hl 0 rfl) ?_
  refine va_get (D := D) (ci := 9) (v := .int 0) (C := RX9) (T := TX9) (N := 11) hx hb hts k2 hown hK.1 hP 0 rfl rfl 1 (by decide) k1 (fun _ h9 => h9) rfl dX9_droppers_1 ?_
  refine lv_aload_n hx hb dX9_droppers_4 rfl (lv_at hl 0 rfl) ?_
  refine va_get (D := D) (ci := 9) (v := .int 0) (C := RX9) (T := TX9) (N := 11) hx hb hts k2 hown hK.1 hP 0 rfl rfl 2 (by decide) k3 (fun _ h9 => h9) rfl dX9_droppers_5 ?_
  refine lv_iconst (v := (-1)) hx hb dX9_droppers_8 (by decide) ?_
  refine lv_ixor hx hb dX9_droppers_9 ?_
  refine oti (-1) (by decide) ?_
  refine lv_iand hx hb dX9_droppers_10 ?_
  refine oti 0 (by decide) ?_
  exact oE_i hx hb hr rfl hlocks hP hD hS () [0] rfl (by decide) rfl (Nat.le_of_ble_eq_true rfl) (Nat.le_of_ble_eq_true rfl) dX9_droppers_11
theorem dX9_daysLeft_0 : decode cX9_daysLeft 0 = .ok (.sipush 400, 3) := by decide +kernel
theorem dX9_daysLeft_3 : decode cX9_daysLeft 3 = .ok (.aload_n 0, 1) := by decide +kernel
theorem dX9_daysLeft_4 : decode cX9_daysLeft 4 = .ok (.getfield 30, 3) := by decide +kernel
theorem dX9_daysLeft_7 : decode cX9_daysLeft 7 = .ok (.isub, 1) := by decide +kernel
theorem dX9_daysLeft_8 : decode cX9_daysLeft 8 = .ok (.ireturn, 1) := by decide +kernel
set_option maxHeartbeats 4000000 in
set_option maxRecDepth 100000 in
theorem c_daysLeft (l : Launch) (D : va_G) (ca : Nat → ClassId) (sz : Nat) (h0 : Nat) (h0_sits : Int32) (h0_holds : Int32) (h0_trials : Int32) (h0_triedToday : Int32) (h0_dents : Nat) (h0_drops : Nat) (h0_how : Nat) (h0_triedOn : Nat) (h0_dropped : Nat) (h0_heldOn : Nat)  : oMet l yX9_daysLeft wsX9_daysLeft ({ frames := 0, cells := 0, slots := 0, locals := 0 } : Room) [.ref h0] D ca sz [(h0, .inr (9, [.int 0, .int h0_sits, .int h0_holds, .int h0_trials, .int h0_triedToday, .ref h0_dents, .ref h0_drops, .ref h0_how, .ref h0_triedOn, .ref h0_dropped, .ref h0_heldOn]))] (oQi D (fun (r : Int32) (u : Unit) => r = 400) (fun (u : Unit) => [(h0, .inr (9, [.int 0, .int h0_sits, .int h0_holds, .int h0_trials, .int h0_triedToday, .ref h0_dents, .ref h0_drops, .ref h0_how, .ref h0_triedOn, .ref h0_dropped, .ref h0_heldOn]))])) 0 0 := by
  refine oM (cc := cX9_daysLeft) (maxL := 1) (ret := (some .int)) (by decide) rfl (Nat.le_of_ble_eq_true rfl) [(0, .ref h0)] rfl ?_
  intro p e s m below meth c A H locs ls hx hb hr hml hts hown hlocks hin hK hP hD hA hS hl
  have hown : s.vm.findClass RX9 = some m.cls := hown
  have k1 := hts (.fieldLink RX9 30 "LidCourt$Standing" "day" "I") (by decide +kernel)
  have k2 : ∀ w ∈ wsX90, w ∈ wsX9_daysLeft := fun _ h => List.mem_cons_of_mem _ (List.mem_append_right _ h)
  refine lv_sipush (v := 400) hx hb dX9_daysLeft_0 (by decide) ?_
  refine lv_aload_n hx hb dX9_daysLeft_3 rfl (lv_at hl 0 rfl) ?_
  refine va_get (D := D) (ci := 9) (v := .int 0) (C := RX9) (T := TX9) (N := 11) hx hb hts k2 hown hK.1 hP 0 rfl rfl 0 (by decide) k1 (fun _ h9 => h9) rfl dX9_daysLeft_4 ?_
  refine lv_isub hx hb dX9_daysLeft_7 ?_
  refine oti 400 (by decide) ?_
  exact oE_i hx hb hr rfl hlocks hP hD hS () [0] rfl (by decide) rfl (Nat.le_of_ble_eq_true rfl) (Nat.le_of_ble_eq_true rfl) dX9_daysLeft_8
theorem dX11_spread_0 : decode cX11_spread 0 = .ok (.aload_n 0, 1) := by decide +kernel
theorem dX11_spread_1 : decode cX11_spread 1 = .ok (.getfield 26, 3) := by decide +kernel
theorem dX11_spread_4 : decode cX11_spread 4 = .ok (.invokevirtual 233, 3) := by decide +kernel
theorem dX11_spread_7 : decode cX11_spread 7 = .ok (.istore_n 2, 1) := by decide +kernel
theorem dX11_spread_8 : decode cX11_spread 8 = .ok (.aload_n 0, 1) := by decide +kernel
theorem dX11_spread_9 : decode cX11_spread 9 = .ok (.iload_n 1, 1) := by decide +kernel
theorem dX11_spread_10 : decode cX11_spread 10 = .ok (.invokevirtual 164, 3) := by decide +kernel
theorem dX11_spread_13 : decode cX11_spread 13 = .ok (.ifCond .eq 7, 3) := by decide +kernel
theorem dX11_spread_20 : decode cX11_spread 20 = .ok (.iconst (-1), 1) := by decide +kernel
theorem dX11_spread_21 : decode cX11_spread 21 = .ok (.ireturn, 1) := by decide +kernel
set_option maxRecDepth 20000 in
theorem ggX11_spread_X9_droppers : GoodIn wsX11_spread wsX9_droppers := goodIn_r _ [8, 9, 10, 74, 75, 76, 77, 78, 79, 80, 81, 82, 83, 84] rfl (by decide +kernel)
set_option maxRecDepth 20000 in
theorem gX11_spread_X9_droppers : GoodIn wsX11_spread (wsV RX11 233 RX9 yX9_droppers wsX9_droppers) := goodIn_app (goodIn_of _ (by decide +kernel)) ggX11_spread_X9_droppers
set_option maxRecDepth 20000 in
theorem ggX11_spread_X11_isCase : GoodIn wsX11_spread wsX11_isCase := goodIn_r _ [15, 2, 16, 43, 44, 45, 46, 47, 48, 49, 50, 51, 52, 53, 54, 55, 56, 57, 58, 59, 60, 61, 62, 63, 64, 65, 66, 67, 68, 69, 70, 71, 72, 73] rfl (by decide +kernel)
set_option maxRecDepth 20000 in
theorem gX11_spread_X11_isCase : GoodIn wsX11_spread (wsV RX11 164 RX11 yX11_isCase wsX11_isCase) := goodIn_app (goodIn_of _ (by decide +kernel)) ggX11_spread_X11_isCase
set_option maxHeartbeats 4000000 in
set_option maxRecDepth 100000 in
theorem c_spread (l : Launch) (D : va_G) (ca : Nat → ClassId) (sz : Nat) (h0 : Nat) (j0 : Int32) (t0 : Nat) (l0 : Nat) (s0 : Nat) (y0 : Nat) (c0 : Nat) (b0 : Nat) (e0 : Nat) (n0 : Nat) (w0 : Nat) (i0 : Nat) (g0 : Nat) (a0 : Nat) (k0 : Nat) (z0 : Nat) (l0_jurorName : Nat) (l0_floorName : Nat) (l0_caseName : Nat) (l0_pitch : Nat) (l0_length : Nat) (l0_hands : Nat) (l0_tune : Nat) (l0_dull : Nat) (l0_caseFloor : Nat) (l0_tuned : Nat) (s0_dents : Nat) (s0_drops : Nat) (s0_how : Nat) (s0_triedOn : Nat) (s0_dropped : Nat) (s0_heldOn : Nat)  : oMet l yX11_spread wsX11_spread ({ frames := 1, cells := 0, slots := 0, locals := 21 } : Room) [.ref h0, .int j0] D ca sz [(h0, .inr (10, [.ref t0, .ref l0, .ref s0, .ref y0, .ref c0, .ref b0, .ref e0, .ref n0, .ref w0, .ref i0, .ref g0, .ref a0, .ref k0, .ref z0, .int 0])), (l0, .inr (5, [.int 0, .int 0, .int 0, .int 3, .int 1, .int 0, .ref l0_jurorName, .ref l0_floorName, .ref l0_caseName, .ref l0_pitch, .ref l0_length, .ref l0_hands, .ref l0_tune, .ref l0_dull, .ref l0_caseFloor, .ref l0_tuned])), (s0, .inr (9, [.int 0, .int 0, .int 0, .int 0, .int 0, .ref s0_dents, .ref s0_drops, .ref s0_how, .ref s0_triedOn, .ref s0_dropped, .ref s0_heldOn]))] (oQi D (fun (r : Int32) (u : Unit) => r = (-1)) (fun (u : Unit) => [(h0, .inr (10, [.ref t0, .ref l0, .ref s0, .ref y0, .ref c0, .ref b0, .ref e0, .ref n0, .ref w0, .ref i0, .ref g0, .ref a0, .ref k0, .ref z0, .int 0])), (l0, .inr (5, [.int 0, .int 0, .int 0, .int 3, .int 1, .int 0, .ref l0_jurorName, .ref l0_floorName, .ref l0_caseName, .ref l0_pitch, .ref l0_length, .ref l0_hands, .ref l0_tune, .ref l0_dull, .ref l0_caseFloor, .ref l0_tuned])), (s0, .inr (9, [.int 0, .int 0, .int 0, .int 0, .int 0, .ref s0_dents, .ref s0_drops, .ref s0_how, .ref s0_triedOn, .ref s0_dropped, .ref s0_heldOn]))])) 0 0 := by
  refine oM (cc := cX11_spread) (maxL := 3) (ret := (some .int)) (by decide) rfl (Nat.le_of_ble_eq_true rfl) [(0, .ref h0), (1, .int j0)] rfl ?_
  intro p e s m below meth c A H locs ls hx hb hr hml hts hown hlocks hin hK hP hD hA hS hl
  have hown : s.vm.findClass RX11 = some m.cls := hown
  have k1 := hts (.fieldLink RX11 26 "LidCourt" "standing" "LLidCourt$Standing;") (by decide +kernel)
  have k2 : ∀ w ∈ wsX110, w ∈ wsX11_spread := fun _ h => List.mem_cons_of_mem _ (List.mem_append_left _ (List.mem_append_left _ (List.mem_append_right _ h)))
  refine lv_aload_n hx hb dX11_spread_0 rfl (lv_at hl 0 rfl) ?_
  refine va_get (D := D) (ci := 10) (v := .ref s0) (C := RX11) (T := TX11) (N := 15) hx hb hts k2 hown hK.1 hP 0 rfl rfl 2 (by decide) k1 (fun _ h9 => h9) rfl dX11_spread_1 ?_
  refine oC_i (Wc := [(s0, .inr (9, [.int 0, .int 0, .int 0, .int 0, .int 0, .ref s0_dents, .ref s0_drops, .ref s0_how, .ref s0_triedOn, .ref s0_dropped, .ref s0_heldOn]))]) (Wr := [(h0, .inr (10, [.ref t0, .ref l0, .ref s0, .ref y0, .ref c0, .ref b0, .ref e0, .ref n0, .ref w0, .ref i0, .ref g0, .ref a0, .ref k0, .ref z0, .int 0])), (l0, .inr (5, [.int 0, .int 0, .int 0, .int 3, .int 1, .int 0, .ref l0_jurorName, .ref l0_floorName, .ref l0_caseName, .ref l0_pitch, .ref l0_length, .ref l0_hands, .ref l0_tune, .ref l0_dull, .ref l0_caseFloor, .ref l0_tuned]))]) (va_runV (As := []) (rest := []) ⟨hx, hb, hml, hown, hts⟩ (c_droppers l D ca H.size s0 s0_dents s0_drops s0_how s0_triedOn s0_dropped s0_heldOn) (cwV 0 hts gX11_spread_X9_droppers rfl rfl rfl (by decide +kernel) ⟨Nat.le_of_ble_eq_true rfl, Nat.le_of_ble_eq_true rfl⟩) (oPV (C := RX9) hK hP hD [2] rfl (by decide) 0 rfl (ci := 9) rfl rfl) rfl rfl hl.1 rfl (lv_room (Nat.le_of_ble_eq_true rfl)) dX11_spread_4 ⟨Nat.le_of_ble_eq_true rfl, Nat.le_of_ble_eq_true rfl⟩) hP hD hS hA [2] [0, 1] rfl rfl (by decide) (by decide) (fun r_1 u H locs w_2 hP hD hS => ?_)
  obtain ⟨⟩ := u
  try dsimp only at w_2
  subst w_2
  have hP : va_P D vwCl [(h0, .inr (10, [.ref t0, .ref l0, .ref s0, .ref y0, .ref c0, .ref b0, .ref e0, .ref n0, .ref w0, .ref i0, .ref g0, .ref a0, .ref k0, .ref z0, .int 0])), (l0, .inr (5, [.int 0, .int 0, .int 0, .int 3, .int 1, .int 0, .ref l0_jurorName, .ref l0_floorName, .ref l0_caseName, .ref l0_pitch, .ref l0_length, .ref l0_hands, .ref l0_tune, .ref l0_dull, .ref l0_caseFloor, .ref l0_tuned])), (s0, .inr (9, [.int 0, .int 0, .int 0, .int 0, .int 0, .ref s0_dents, .ref s0_drops, .ref s0_how, .ref s0_triedOn, .ref s0_dropped, .ref s0_heldOn]))] H := hP
  have hD : va_D A [(h0, .inr (10, [.ref t0, .ref l0, .ref s0, .ref y0, .ref c0, .ref b0, .ref e0, .ref n0, .ref w0, .ref i0, .ref g0, .ref a0, .ref k0, .ref z0, .int 0])), (l0, .inr (5, [.int 0, .int 0, .int 0, .int 3, .int 1, .int 0, .ref l0_jurorName, .ref l0_floorName, .ref l0_caseName, .ref l0_pitch, .ref l0_length, .ref l0_hands, .ref l0_tune, .ref l0_dull, .ref l0_caseFloor, .ref l0_tuned])), (s0, .inr (9, [.int 0, .int 0, .int 0, .int 0, .int 0, .ref s0_dents, .ref s0_drops, .ref s0_how, .ref s0_triedOn, .ref s0_dropped, .ref s0_heldOn]))] := hD
  refine lv_istore_n (lv' := [(2, .int 0), (0, .ref h0), (1, .int j0)]) hx hb dX11_spread_7 rfl hl (by decide) rfl (fun ls hl => ?_)
  refine lv_aload_n hx hb dX11_spread_8 rfl (lv_at hl 1 rfl) ?_
  refine lv_iload_n hx hb dX11_spread_9 rfl (lv_at hl 2 rfl) ?_
  refine oC_i (Wc := [(h0, .inr (10, [.ref t0, .ref l0, .ref s0, .ref y0, .ref c0, .ref b0, .ref e0, .ref n0, .ref w0, .ref i0, .ref g0, .ref a0, .ref k0, .ref z0, .int 0])), (l0, .inr (5, [.int 0, .int 0, .int 0, .int 3, .int 1, .int 0, .ref l0_jurorName, .ref l0_floorName, .ref l0_caseName, .ref l0_pitch, .ref l0_length, .ref l0_hands, .ref l0_tune, .ref l0_dull, .ref l0_caseFloor, .ref l0_tuned]))]) (Wr := [(s0, .inr (9, [.int 0, .int 0, .int 0, .int 0, .int 0, .ref s0_dents, .ref s0_drops, .ref s0_how, .ref s0_triedOn, .ref s0_dropped, .ref s0_heldOn]))]) (va_runV (As := [.int j0]) (rest := []) ⟨hx, hb, hml, hown, hts⟩ (c_isCase l D ca H.size h0 j0 t0 l0 s0 y0 c0 b0 e0 n0 w0 i0 g0 a0 k0 z0 l0_jurorName l0_floorName l0_caseName l0_pitch l0_length l0_hands l0_tune l0_dull l0_caseFloor l0_tuned) (cwV 1 hts gX11_spread_X11_isCase rfl rfl rfl (by decide +kernel) ⟨Nat.le_of_ble_eq_true rfl, Nat.le_of_ble_eq_true rfl⟩) (oPV (C := RX11) hK hP hD [0, 1] rfl (by decide) 0 rfl (ci := 10) rfl rfl) rfl rfl hl.1 rfl (lv_room (Nat.le_of_ble_eq_true rfl)) dX11_spread_10 ⟨Nat.le_of_ble_eq_true rfl, Nat.le_of_ble_eq_true rfl⟩) hP hD hS hA [0, 1] [2] rfl rfl (by decide) (by decide) (fun r_3 u H locs w_4 hP hD hS => ?_)
  obtain ⟨⟩ := u
  try dsimp only at w_4
  subst w_4
  have hP : va_P D vwCl [(s0, .inr (9, [.int 0, .int 0, .int 0, .int 0, .int 0, .ref s0_dents, .ref s0_drops, .ref s0_how, .ref s0_triedOn, .ref s0_dropped, .ref s0_heldOn])), (h0, .inr (10, [.ref t0, .ref l0, .ref s0, .ref y0, .ref c0, .ref b0, .ref e0, .ref n0, .ref w0, .ref i0, .ref g0, .ref a0, .ref k0, .ref z0, .int 0])), (l0, .inr (5, [.int 0, .int 0, .int 0, .int 3, .int 1, .int 0, .ref l0_jurorName, .ref l0_floorName, .ref l0_caseName, .ref l0_pitch, .ref l0_length, .ref l0_hands, .ref l0_tune, .ref l0_dull, .ref l0_caseFloor, .ref l0_tuned]))] H := hP
  have hD : va_D A [(s0, .inr (9, [.int 0, .int 0, .int 0, .int 0, .int 0, .ref s0_dents, .ref s0_drops, .ref s0_how, .ref s0_triedOn, .ref s0_dropped, .ref s0_heldOn])), (h0, .inr (10, [.ref t0, .ref l0, .ref s0, .ref y0, .ref c0, .ref b0, .ref e0, .ref n0, .ref w0, .ref i0, .ref g0, .ref a0, .ref k0, .ref z0, .int 0])), (l0, .inr (5, [.int 0, .int 0, .int 0, .int 3, .int 1, .int 0, .ref l0_jurorName, .ref l0_floorName, .ref l0_caseName, .ref l0_pitch, .ref l0_length, .ref l0_hands, .ref l0_tune, .ref l0_dull, .ref l0_caseFloor, .ref l0_tuned]))] := hD
  refine lv_if_eq (tgt := 20) hx hb dX11_spread_13 (by decide) (fun _ => ?_) (fun c => absurd (by decide) c)
  refine lv_iconst (v := (-1)) hx hb dX11_spread_20 (by decide) ?_
  exact oE_i hx hb hr rfl hlocks hP hD hS () [1, 2, 0] rfl (by decide) rfl (Nat.le_of_ble_eq_true rfl) (Nat.le_of_ble_eq_true rfl) dX11_spread_21
theorem dX11_longest_0 : decode cX11_longest 0 = .ok (.aload_n 0, 1) := by decide +kernel
theorem dX11_longest_1 : decode cX11_longest 1 = .ok (.getfield 26, 3) := by decide +kernel
theorem dX11_longest_4 : decode cX11_longest 4 = .ok (.invokevirtual 233, 3) := by decide +kernel
theorem dX11_longest_7 : decode cX11_longest 7 = .ok (.istore_n 2, 1) := by decide +kernel
theorem dX11_longest_8 : decode cX11_longest 8 = .ok (.aload_n 0, 1) := by decide +kernel
theorem dX11_longest_9 : decode cX11_longest 9 = .ok (.iload_n 1, 1) := by decide +kernel
theorem dX11_longest_10 : decode cX11_longest 10 = .ok (.invokevirtual 164, 3) := by decide +kernel
theorem dX11_longest_13 : decode cX11_longest 13 = .ok (.ifCond .eq 7, 3) := by decide +kernel
theorem dX11_longest_20 : decode cX11_longest 20 = .ok (.iconst (-1), 1) := by decide +kernel
theorem dX11_longest_21 : decode cX11_longest 21 = .ok (.ireturn, 1) := by decide +kernel
set_option maxRecDepth 20000 in
theorem ggX11_longest_X9_droppers : GoodIn wsX11_longest wsX9_droppers := goodIn_r _ [13, 14, 15, 61, 62, 63, 64, 65, 66, 67, 68, 69, 70, 71] rfl (by decide +kernel)
set_option maxRecDepth 20000 in
theorem gX11_longest_X9_droppers : GoodIn wsX11_longest (wsV RX11 233 RX9 yX9_droppers wsX9_droppers) := goodIn_app (goodIn_of _ (by decide +kernel)) ggX11_longest_X9_droppers
set_option maxRecDepth 20000 in
theorem ggX11_longest_X11_isCase : GoodIn wsX11_longest wsX11_isCase := goodIn_r _ [20, 2, 21, 30, 31, 32, 33, 34, 35, 36, 37, 38, 39, 40, 41, 42, 43, 44, 45, 46, 47, 48, 49, 50, 51, 52, 53, 54, 55, 56, 57, 58, 59, 60] rfl (by decide +kernel)
set_option maxRecDepth 20000 in
theorem gX11_longest_X11_isCase : GoodIn wsX11_longest (wsV RX11 164 RX11 yX11_isCase wsX11_isCase) := goodIn_app (goodIn_of _ (by decide +kernel)) ggX11_longest_X11_isCase
set_option maxHeartbeats 4000000 in
set_option maxRecDepth 100000 in
theorem c_longest (l : Launch) (D : va_G) (ca : Nat → ClassId) (sz : Nat) (h0 : Nat) (j0 : Int32) (t0 : Nat) (l0 : Nat) (s0 : Nat) (y0 : Nat) (c0 : Nat) (b0 : Nat) (e0 : Nat) (n0 : Nat) (w0 : Nat) (i0 : Nat) (g0 : Nat) (a0 : Nat) (k0 : Nat) (z0 : Nat) (l0_jurorName : Nat) (l0_floorName : Nat) (l0_caseName : Nat) (l0_pitch : Nat) (l0_length : Nat) (l0_hands : Nat) (l0_tune : Nat) (l0_dull : Nat) (l0_caseFloor : Nat) (l0_tuned : Nat) (s0_dents : Nat) (s0_drops : Nat) (s0_how : Nat) (s0_triedOn : Nat) (s0_dropped : Nat) (s0_heldOn : Nat)  : oMet l yX11_longest wsX11_longest ({ frames := 1, cells := 0, slots := 0, locals := 21 } : Room) [.ref h0, .int j0] D ca sz [(h0, .inr (10, [.ref t0, .ref l0, .ref s0, .ref y0, .ref c0, .ref b0, .ref e0, .ref n0, .ref w0, .ref i0, .ref g0, .ref a0, .ref k0, .ref z0, .int 0])), (l0, .inr (5, [.int 0, .int 0, .int 0, .int 3, .int 1, .int 0, .ref l0_jurorName, .ref l0_floorName, .ref l0_caseName, .ref l0_pitch, .ref l0_length, .ref l0_hands, .ref l0_tune, .ref l0_dull, .ref l0_caseFloor, .ref l0_tuned])), (s0, .inr (9, [.int 0, .int 0, .int 0, .int 0, .int 0, .ref s0_dents, .ref s0_drops, .ref s0_how, .ref s0_triedOn, .ref s0_dropped, .ref s0_heldOn]))] (oQi D (fun (r : Int32) (u : Unit) => r = (-1)) (fun (u : Unit) => [(h0, .inr (10, [.ref t0, .ref l0, .ref s0, .ref y0, .ref c0, .ref b0, .ref e0, .ref n0, .ref w0, .ref i0, .ref g0, .ref a0, .ref k0, .ref z0, .int 0])), (l0, .inr (5, [.int 0, .int 0, .int 0, .int 3, .int 1, .int 0, .ref l0_jurorName, .ref l0_floorName, .ref l0_caseName, .ref l0_pitch, .ref l0_length, .ref l0_hands, .ref l0_tune, .ref l0_dull, .ref l0_caseFloor, .ref l0_tuned])), (s0, .inr (9, [.int 0, .int 0, .int 0, .int 0, .int 0, .ref s0_dents, .ref s0_drops, .ref s0_how, .ref s0_triedOn, .ref s0_dropped, .ref s0_heldOn]))])) 0 0 := by
  refine oM (cc := cX11_longest) (maxL := 5) (ret := (some .int)) (by decide) rfl (Nat.le_of_ble_eq_true rfl) [(0, .ref h0), (1, .int j0)] rfl ?_
  intro p e s m below meth c A H locs ls hx hb hr hml hts hown hlocks hin hK hP hD hA hS hl
  have hown : s.vm.findClass RX11 = some m.cls := hown
  have k1 := hts (.fieldLink RX11 26 "LidCourt" "standing" "LLidCourt$Standing;") (by decide +kernel)
  have k2 : ∀ w ∈ wsX110, w ∈ wsX11_longest := fun _ h => List.mem_cons_of_mem _ (List.mem_append_left _ (List.mem_append_left _ (List.mem_append_right _ h)))
  refine lv_aload_n hx hb dX11_longest_0 rfl (lv_at hl 0 rfl) ?_
  refine va_get (D := D) (ci := 10) (v := .ref s0) (C := RX11) (T := TX11) (N := 15) hx hb hts k2 hown hK.1 hP 0 rfl rfl 2 (by decide) k1 (fun _ h9 => h9) rfl dX11_longest_1 ?_
  refine oC_i (Wc := [(s0, .inr (9, [.int 0, .int 0, .int 0, .int 0, .int 0, .ref s0_dents, .ref s0_drops, .ref s0_how, .ref s0_triedOn, .ref s0_dropped, .ref s0_heldOn]))]) (Wr := [(h0, .inr (10, [.ref t0, .ref l0, .ref s0, .ref y0, .ref c0, .ref b0, .ref e0, .ref n0, .ref w0, .ref i0, .ref g0, .ref a0, .ref k0, .ref z0, .int 0])), (l0, .inr (5, [.int 0, .int 0, .int 0, .int 3, .int 1, .int 0, .ref l0_jurorName, .ref l0_floorName, .ref l0_caseName, .ref l0_pitch, .ref l0_length, .ref l0_hands, .ref l0_tune, .ref l0_dull, .ref l0_caseFloor, .ref l0_tuned]))]) (va_runV (As := []) (rest := []) ⟨hx, hb, hml, hown, hts⟩ (c_droppers l D ca H.size s0 s0_dents s0_drops s0_how s0_triedOn s0_dropped s0_heldOn) (cwV 0 hts gX11_longest_X9_droppers rfl rfl rfl (by decide +kernel) ⟨Nat.le_of_ble_eq_true rfl, Nat.le_of_ble_eq_true rfl⟩) (oPV (C := RX9) hK hP hD [2] rfl (by decide) 0 rfl (ci := 9) rfl rfl) rfl rfl hl.1 rfl (lv_room (Nat.le_of_ble_eq_true rfl)) dX11_longest_4 ⟨Nat.le_of_ble_eq_true rfl, Nat.le_of_ble_eq_true rfl⟩) hP hD hS hA [2] [0, 1] rfl rfl (by decide) (by decide) (fun r_1 u H locs w_2 hP hD hS => ?_)
  obtain ⟨⟩ := u
  try dsimp only at w_2
  subst w_2
  have hP : va_P D vwCl [(h0, .inr (10, [.ref t0, .ref l0, .ref s0, .ref y0, .ref c0, .ref b0, .ref e0, .ref n0, .ref w0, .ref i0, .ref g0, .ref a0, .ref k0, .ref z0, .int 0])), (l0, .inr (5, [.int 0, .int 0, .int 0, .int 3, .int 1, .int 0, .ref l0_jurorName, .ref l0_floorName, .ref l0_caseName, .ref l0_pitch, .ref l0_length, .ref l0_hands, .ref l0_tune, .ref l0_dull, .ref l0_caseFloor, .ref l0_tuned])), (s0, .inr (9, [.int 0, .int 0, .int 0, .int 0, .int 0, .ref s0_dents, .ref s0_drops, .ref s0_how, .ref s0_triedOn, .ref s0_dropped, .ref s0_heldOn]))] H := hP
  have hD : va_D A [(h0, .inr (10, [.ref t0, .ref l0, .ref s0, .ref y0, .ref c0, .ref b0, .ref e0, .ref n0, .ref w0, .ref i0, .ref g0, .ref a0, .ref k0, .ref z0, .int 0])), (l0, .inr (5, [.int 0, .int 0, .int 0, .int 3, .int 1, .int 0, .ref l0_jurorName, .ref l0_floorName, .ref l0_caseName, .ref l0_pitch, .ref l0_length, .ref l0_hands, .ref l0_tune, .ref l0_dull, .ref l0_caseFloor, .ref l0_tuned])), (s0, .inr (9, [.int 0, .int 0, .int 0, .int 0, .int 0, .ref s0_dents, .ref s0_drops, .ref s0_how, .ref s0_triedOn, .ref s0_dropped, .ref s0_heldOn]))] := hD
  refine lv_istore_n (lv' := [(2, .int 0), (0, .ref h0), (1, .int j0)]) hx hb dX11_longest_7 rfl hl (by decide) rfl (fun ls hl => ?_)
  refine lv_aload_n hx hb dX11_longest_8 rfl (lv_at hl 1 rfl) ?_
  refine lv_iload_n hx hb dX11_longest_9 rfl (lv_at hl 2 rfl) ?_
  refine oC_i (Wc := [(h0, .inr (10, [.ref t0, .ref l0, .ref s0, .ref y0, .ref c0, .ref b0, .ref e0, .ref n0, .ref w0, .ref i0, .ref g0, .ref a0, .ref k0, .ref z0, .int 0])), (l0, .inr (5, [.int 0, .int 0, .int 0, .int 3, .int 1, .int 0, .ref l0_jurorName, .ref l0_floorName, .ref l0_caseName, .ref l0_pitch, .ref l0_length, .ref l0_hands, .ref l0_tune, .ref l0_dull, .ref l0_caseFloor, .ref l0_tuned]))]) (Wr := [(s0, .inr (9, [.int 0, .int 0, .int 0, .int 0, .int 0, .ref s0_dents, .ref s0_drops, .ref s0_how, .ref s0_triedOn, .ref s0_dropped, .ref s0_heldOn]))]) (va_runV (As := [.int j0]) (rest := []) ⟨hx, hb, hml, hown, hts⟩ (c_isCase l D ca H.size h0 j0 t0 l0 s0 y0 c0 b0 e0 n0 w0 i0 g0 a0 k0 z0 l0_jurorName l0_floorName l0_caseName l0_pitch l0_length l0_hands l0_tune l0_dull l0_caseFloor l0_tuned) (cwV 1 hts gX11_longest_X11_isCase rfl rfl rfl (by decide +kernel) ⟨Nat.le_of_ble_eq_true rfl, Nat.le_of_ble_eq_true rfl⟩) (oPV (C := RX11) hK hP hD [0, 1] rfl (by decide) 0 rfl (ci := 10) rfl rfl) rfl rfl hl.1 rfl (lv_room (Nat.le_of_ble_eq_true rfl)) dX11_longest_10 ⟨Nat.le_of_ble_eq_true rfl, Nat.le_of_ble_eq_true rfl⟩) hP hD hS hA [0, 1] [2] rfl rfl (by decide) (by decide) (fun r_3 u H locs w_4 hP hD hS => ?_)
  obtain ⟨⟩ := u
  try dsimp only at w_4
  subst w_4
  have hP : va_P D vwCl [(s0, .inr (9, [.int 0, .int 0, .int 0, .int 0, .int 0, .ref s0_dents, .ref s0_drops, .ref s0_how, .ref s0_triedOn, .ref s0_dropped, .ref s0_heldOn])), (h0, .inr (10, [.ref t0, .ref l0, .ref s0, .ref y0, .ref c0, .ref b0, .ref e0, .ref n0, .ref w0, .ref i0, .ref g0, .ref a0, .ref k0, .ref z0, .int 0])), (l0, .inr (5, [.int 0, .int 0, .int 0, .int 3, .int 1, .int 0, .ref l0_jurorName, .ref l0_floorName, .ref l0_caseName, .ref l0_pitch, .ref l0_length, .ref l0_hands, .ref l0_tune, .ref l0_dull, .ref l0_caseFloor, .ref l0_tuned]))] H := hP
  have hD : va_D A [(s0, .inr (9, [.int 0, .int 0, .int 0, .int 0, .int 0, .ref s0_dents, .ref s0_drops, .ref s0_how, .ref s0_triedOn, .ref s0_dropped, .ref s0_heldOn])), (h0, .inr (10, [.ref t0, .ref l0, .ref s0, .ref y0, .ref c0, .ref b0, .ref e0, .ref n0, .ref w0, .ref i0, .ref g0, .ref a0, .ref k0, .ref z0, .int 0])), (l0, .inr (5, [.int 0, .int 0, .int 0, .int 3, .int 1, .int 0, .ref l0_jurorName, .ref l0_floorName, .ref l0_caseName, .ref l0_pitch, .ref l0_length, .ref l0_hands, .ref l0_tune, .ref l0_dull, .ref l0_caseFloor, .ref l0_tuned]))] := hD
  refine lv_if_eq (tgt := 20) hx hb dX11_longest_13 (by decide) (fun _ => ?_) (fun c => absurd (by decide) c)
  refine lv_iconst (v := (-1)) hx hb dX11_longest_20 (by decide) ?_
  exact oE_i hx hb hr rfl hlocks hP hD hS () [1, 2, 0] rfl (by decide) rfl (Nat.le_of_ble_eq_true rfl) (Nat.le_of_ble_eq_true rfl) dX11_longest_21
theorem dX11_beats_0 : decode cX11_beats 0 = .ok (.aload_n 0, 1) := by decide +kernel
theorem dX11_beats_1 : decode cX11_beats 1 = .ok (.getfield 26, 3) := by decide +kernel
theorem dX11_beats_4 : decode cX11_beats 4 = .ok (.invokevirtual 233, 3) := by decide +kernel
theorem dX11_beats_7 : decode cX11_beats 7 = .ok (.istore_n 2, 1) := by decide +kernel
theorem dX11_beats_8 : decode cX11_beats 8 = .ok (.aload_n 0, 1) := by decide +kernel
theorem dX11_beats_9 : decode cX11_beats 9 = .ok (.iload_n 1, 1) := by decide +kernel
theorem dX11_beats_10 : decode cX11_beats 10 = .ok (.invokevirtual 164, 3) := by decide +kernel
theorem dX11_beats_13 : decode cX11_beats 13 = .ok (.ifCond .eq 7, 3) := by decide +kernel
theorem dX11_beats_20 : decode cX11_beats 20 = .ok (.iconst (-1), 1) := by decide +kernel
theorem dX11_beats_21 : decode cX11_beats 21 = .ok (.ireturn, 1) := by decide +kernel
set_option maxRecDepth 20000 in
theorem ggX11_beats_X9_droppers : GoodIn wsX11_beats wsX9_droppers := goodIn_r _ [10, 11, 12, 92, 93, 94, 95, 96, 97, 98, 99, 100, 101, 102] rfl (by decide +kernel)
set_option maxRecDepth 20000 in
theorem gX11_beats_X9_droppers : GoodIn wsX11_beats (wsV RX11 233 RX9 yX9_droppers wsX9_droppers) := goodIn_app (goodIn_of _ (by decide +kernel)) ggX11_beats_X9_droppers
set_option maxRecDepth 20000 in
theorem ggX11_beats_X11_isCase : GoodIn wsX11_beats wsX11_isCase := goodIn_r _ [17, 3, 18, 61, 62, 63, 64, 65, 66, 67, 68, 69, 70, 71, 72, 73, 74, 75, 76, 77, 78, 79, 80, 81, 82, 83, 84, 85, 86, 87, 88, 89, 90, 91] rfl (by decide +kernel)
set_option maxRecDepth 20000 in
theorem gX11_beats_X11_isCase : GoodIn wsX11_beats (wsV RX11 164 RX11 yX11_isCase wsX11_isCase) := goodIn_app (goodIn_of _ (by decide +kernel)) ggX11_beats_X11_isCase
set_option maxHeartbeats 4000000 in
set_option maxRecDepth 100000 in
theorem c_beats (l : Launch) (D : va_G) (ca : Nat → ClassId) (sz : Nat) (h0 : Nat) (j0 : Int32) (t0 : Nat) (l0 : Nat) (s0 : Nat) (y0 : Nat) (c0 : Nat) (b0 : Nat) (e0 : Nat) (n0 : Nat) (w0 : Nat) (i0 : Nat) (g0 : Nat) (a0 : Nat) (k0 : Nat) (z0 : Nat) (l0_jurorName : Nat) (l0_floorName : Nat) (l0_caseName : Nat) (l0_pitch : Nat) (l0_length : Nat) (l0_hands : Nat) (l0_tune : Nat) (l0_dull : Nat) (l0_caseFloor : Nat) (l0_tuned : Nat) (s0_dents : Nat) (s0_drops : Nat) (s0_how : Nat) (s0_triedOn : Nat) (s0_dropped : Nat) (s0_heldOn : Nat)  : oMet l yX11_beats wsX11_beats ({ frames := 1, cells := 0, slots := 0, locals := 21 } : Room) [.ref h0, .int j0] D ca sz [(h0, .inr (10, [.ref t0, .ref l0, .ref s0, .ref y0, .ref c0, .ref b0, .ref e0, .ref n0, .ref w0, .ref i0, .ref g0, .ref a0, .ref k0, .ref z0, .int 0])), (l0, .inr (5, [.int 0, .int 0, .int 0, .int 3, .int 1, .int 0, .ref l0_jurorName, .ref l0_floorName, .ref l0_caseName, .ref l0_pitch, .ref l0_length, .ref l0_hands, .ref l0_tune, .ref l0_dull, .ref l0_caseFloor, .ref l0_tuned])), (s0, .inr (9, [.int 0, .int 0, .int 0, .int 0, .int 0, .ref s0_dents, .ref s0_drops, .ref s0_how, .ref s0_triedOn, .ref s0_dropped, .ref s0_heldOn]))] (oQi D (fun (r : Int32) (u : Unit) => r = (-1)) (fun (u : Unit) => [(h0, .inr (10, [.ref t0, .ref l0, .ref s0, .ref y0, .ref c0, .ref b0, .ref e0, .ref n0, .ref w0, .ref i0, .ref g0, .ref a0, .ref k0, .ref z0, .int 0])), (l0, .inr (5, [.int 0, .int 0, .int 0, .int 3, .int 1, .int 0, .ref l0_jurorName, .ref l0_floorName, .ref l0_caseName, .ref l0_pitch, .ref l0_length, .ref l0_hands, .ref l0_tune, .ref l0_dull, .ref l0_caseFloor, .ref l0_tuned])), (s0, .inr (9, [.int 0, .int 0, .int 0, .int 0, .int 0, .ref s0_dents, .ref s0_drops, .ref s0_how, .ref s0_triedOn, .ref s0_dropped, .ref s0_heldOn]))])) 0 0 := by
  refine oM (cc := cX11_beats) (maxL := 4) (ret := (some .int)) (by decide) rfl (Nat.le_of_ble_eq_true rfl) [(0, .ref h0), (1, .int j0)] rfl ?_
  intro p e s m below meth c A H locs ls hx hb hr hml hts hown hlocks hin hK hP hD hA hS hl
  have hown : s.vm.findClass RX11 = some m.cls := hown
  have k1 := hts (.fieldLink RX11 26 "LidCourt" "standing" "LLidCourt$Standing;") (by decide +kernel)
  have k2 : ∀ w ∈ wsX110, w ∈ wsX11_beats := fun _ h => List.mem_cons_of_mem _ (List.mem_append_left _ (List.mem_append_left _ (List.mem_append_right _ h)))
  refine lv_aload_n hx hb dX11_beats_0 rfl (lv_at hl 0 rfl) ?_
  refine va_get (D := D) (ci := 10) (v := .ref s0) (C := RX11) (T := TX11) (N := 15) hx hb hts k2 hown hK.1 hP 0 rfl rfl 2 (by decide) k1 (fun _ h9 => h9) rfl dX11_beats_1 ?_
  refine oC_i (Wc := [(s0, .inr (9, [.int 0, .int 0, .int 0, .int 0, .int 0, .ref s0_dents, .ref s0_drops, .ref s0_how, .ref s0_triedOn, .ref s0_dropped, .ref s0_heldOn]))]) (Wr := [(h0, .inr (10, [.ref t0, .ref l0, .ref s0, .ref y0, .ref c0, .ref b0, .ref e0, .ref n0, .ref w0, .ref i0, .ref g0, .ref a0, .ref k0, .ref z0, .int 0])), (l0, .inr (5, [.int 0, .int 0, .int 0, .int 3, .int 1, .int 0, .ref l0_jurorName, .ref l0_floorName, .ref l0_caseName, .ref l0_pitch, .ref l0_length, .ref l0_hands, .ref l0_tune, .ref l0_dull, .ref l0_caseFloor, .ref l0_tuned]))]) (va_runV (As := []) (rest := []) ⟨hx, hb, hml, hown, hts⟩ (c_droppers l D ca H.size s0 s0_dents s0_drops s0_how s0_triedOn s0_dropped s0_heldOn) (cwV 0 hts gX11_beats_X9_droppers rfl rfl rfl (by decide +kernel) ⟨Nat.le_of_ble_eq_true rfl, Nat.le_of_ble_eq_true rfl⟩) (oPV (C := RX9) hK hP hD [2] rfl (by decide) 0 rfl (ci := 9) rfl rfl) rfl rfl hl.1 rfl (lv_room (Nat.le_of_ble_eq_true rfl)) dX11_beats_4 ⟨Nat.le_of_ble_eq_true rfl, Nat.le_of_ble_eq_true rfl⟩) hP hD hS hA [2] [0, 1] rfl rfl (by decide) (by decide) (fun r_1 u H locs w_2 hP hD hS => ?_)
  obtain ⟨⟩ := u
  try dsimp only at w_2
  subst w_2
  have hP : va_P D vwCl [(h0, .inr (10, [.ref t0, .ref l0, .ref s0, .ref y0, .ref c0, .ref b0, .ref e0, .ref n0, .ref w0, .ref i0, .ref g0, .ref a0, .ref k0, .ref z0, .int 0])), (l0, .inr (5, [.int 0, .int 0, .int 0, .int 3, .int 1, .int 0, .ref l0_jurorName, .ref l0_floorName, .ref l0_caseName, .ref l0_pitch, .ref l0_length, .ref l0_hands, .ref l0_tune, .ref l0_dull, .ref l0_caseFloor, .ref l0_tuned])), (s0, .inr (9, [.int 0, .int 0, .int 0, .int 0, .int 0, .ref s0_dents, .ref s0_drops, .ref s0_how, .ref s0_triedOn, .ref s0_dropped, .ref s0_heldOn]))] H := hP
  have hD : va_D A [(h0, .inr (10, [.ref t0, .ref l0, .ref s0, .ref y0, .ref c0, .ref b0, .ref e0, .ref n0, .ref w0, .ref i0, .ref g0, .ref a0, .ref k0, .ref z0, .int 0])), (l0, .inr (5, [.int 0, .int 0, .int 0, .int 3, .int 1, .int 0, .ref l0_jurorName, .ref l0_floorName, .ref l0_caseName, .ref l0_pitch, .ref l0_length, .ref l0_hands, .ref l0_tune, .ref l0_dull, .ref l0_caseFloor, .ref l0_tuned])), (s0, .inr (9, [.int 0, .int 0, .int 0, .int 0, .int 0, .ref s0_dents, .ref s0_drops, .ref s0_how, .ref s0_triedOn, .ref s0_dropped, .ref s0_heldOn]))] := hD
  refine lv_istore_n (lv' := [(2, .int 0), (0, .ref h0), (1, .int j0)]) hx hb dX11_beats_7 rfl hl (by decide) rfl (fun ls hl => ?_)
  refine lv_aload_n hx hb dX11_beats_8 rfl (lv_at hl 1 rfl) ?_
  refine lv_iload_n hx hb dX11_beats_9 rfl (lv_at hl 2 rfl) ?_
  refine oC_i (Wc := [(h0, .inr (10, [.ref t0, .ref l0, .ref s0, .ref y0, .ref c0, .ref b0, .ref e0, .ref n0, .ref w0, .ref i0, .ref g0, .ref a0, .ref k0, .ref z0, .int 0])), (l0, .inr (5, [.int 0, .int 0, .int 0, .int 3, .int 1, .int 0, .ref l0_jurorName, .ref l0_floorName, .ref l0_caseName, .ref l0_pitch, .ref l0_length, .ref l0_hands, .ref l0_tune, .ref l0_dull, .ref l0_caseFloor, .ref l0_tuned]))]) (Wr := [(s0, .inr (9, [.int 0, .int 0, .int 0, .int 0, .int 0, .ref s0_dents, .ref s0_drops, .ref s0_how, .ref s0_triedOn, .ref s0_dropped, .ref s0_heldOn]))]) (va_runV (As := [.int j0]) (rest := []) ⟨hx, hb, hml, hown, hts⟩ (c_isCase l D ca H.size h0 j0 t0 l0 s0 y0 c0 b0 e0 n0 w0 i0 g0 a0 k0 z0 l0_jurorName l0_floorName l0_caseName l0_pitch l0_length l0_hands l0_tune l0_dull l0_caseFloor l0_tuned) (cwV 1 hts gX11_beats_X11_isCase rfl rfl rfl (by decide +kernel) ⟨Nat.le_of_ble_eq_true rfl, Nat.le_of_ble_eq_true rfl⟩) (oPV (C := RX11) hK hP hD [0, 1] rfl (by decide) 0 rfl (ci := 10) rfl rfl) rfl rfl hl.1 rfl (lv_room (Nat.le_of_ble_eq_true rfl)) dX11_beats_10 ⟨Nat.le_of_ble_eq_true rfl, Nat.le_of_ble_eq_true rfl⟩) hP hD hS hA [0, 1] [2] rfl rfl (by decide) (by decide) (fun r_3 u H locs w_4 hP hD hS => ?_)
  obtain ⟨⟩ := u
  try dsimp only at w_4
  subst w_4
  have hP : va_P D vwCl [(s0, .inr (9, [.int 0, .int 0, .int 0, .int 0, .int 0, .ref s0_dents, .ref s0_drops, .ref s0_how, .ref s0_triedOn, .ref s0_dropped, .ref s0_heldOn])), (h0, .inr (10, [.ref t0, .ref l0, .ref s0, .ref y0, .ref c0, .ref b0, .ref e0, .ref n0, .ref w0, .ref i0, .ref g0, .ref a0, .ref k0, .ref z0, .int 0])), (l0, .inr (5, [.int 0, .int 0, .int 0, .int 3, .int 1, .int 0, .ref l0_jurorName, .ref l0_floorName, .ref l0_caseName, .ref l0_pitch, .ref l0_length, .ref l0_hands, .ref l0_tune, .ref l0_dull, .ref l0_caseFloor, .ref l0_tuned]))] H := hP
  have hD : va_D A [(s0, .inr (9, [.int 0, .int 0, .int 0, .int 0, .int 0, .ref s0_dents, .ref s0_drops, .ref s0_how, .ref s0_triedOn, .ref s0_dropped, .ref s0_heldOn])), (h0, .inr (10, [.ref t0, .ref l0, .ref s0, .ref y0, .ref c0, .ref b0, .ref e0, .ref n0, .ref w0, .ref i0, .ref g0, .ref a0, .ref k0, .ref z0, .int 0])), (l0, .inr (5, [.int 0, .int 0, .int 0, .int 3, .int 1, .int 0, .ref l0_jurorName, .ref l0_floorName, .ref l0_caseName, .ref l0_pitch, .ref l0_length, .ref l0_hands, .ref l0_tune, .ref l0_dull, .ref l0_caseFloor, .ref l0_tuned]))] := hD
  refine lv_if_eq (tgt := 20) hx hb dX11_beats_13 (by decide) (fun _ => ?_) (fun c => absurd (by decide) c)
  refine lv_iconst (v := (-1)) hx hb dX11_beats_20 (by decide) ?_
  exact oE_i hx hb hr rfl hlocks hP hD hS () [1, 2, 0] rfl (by decide) rfl (Nat.le_of_ble_eq_true rfl) (Nat.le_of_ble_eq_true rfl) dX11_beats_21
theorem dX11_verdict_0 : decode cX11_verdict 0 = .ok (.aload_n 0, 1) := by decide +kernel
theorem dX11_verdict_1 : decode cX11_verdict 1 = .ok (.iload_n 1, 1) := by decide +kernel
theorem dX11_verdict_2 : decode cX11_verdict 2 = .ok (.invokevirtual 227, 3) := by decide +kernel
theorem dX11_verdict_5 : decode cX11_verdict 5 = .ok (.istore_n 2, 1) := by decide +kernel
theorem dX11_verdict_6 : decode cX11_verdict 6 = .ok (.iload_n 2, 1) := by decide +kernel
theorem dX11_verdict_7 : decode cX11_verdict 7 = .ok (.iconst (-1), 1) := by decide +kernel
theorem dX11_verdict_8 : decode cX11_verdict 8 = .ok (.if_icmp .ne 5, 3) := by decide +kernel
theorem dX11_verdict_11 : decode cX11_verdict 11 = .ok (.iconst (-1), 1) := by decide +kernel
theorem dX11_verdict_12 : decode cX11_verdict 12 = .ok (.ireturn, 1) := by decide +kernel
set_option maxRecDepth 20000 in
theorem ggX11_verdict_X11_spread : GoodIn wsX11_verdict wsX11_spread := goodIn_r _ [7, 8, 1, 9, 10, 11, 12, 13, 14, 15, 16, 17, 18, 19, 6, 20, 21, 22, 23, 24, 25, 26, 27, 28, 29, 30, 31, 32, 33, 34, 35, 36, 37, 38, 39, 40, 41, 42, 43, 44, 45, 46, 47, 48, 49, 50, 51, 52, 53, 54, 55, 56, 57, 58, 59, 60, 61, 62, 63, 64, 65, 66, 67, 68, 69, 70, 71, 72, 73, 74, 75, 76, 77, 78, 79, 80, 81, 82, 83, 84, 85, 86, 87, 88, 89] rfl (by decide +kernel)
set_option maxRecDepth 20000 in
theorem gX11_verdict_X11_spread : GoodIn wsX11_verdict (wsV RX11 227 RX11 yX11_spread wsX11_spread) := goodIn_app (goodIn_of _ (by decide +kernel)) ggX11_verdict_X11_spread
set_option maxHeartbeats 4000000 in
set_option maxRecDepth 100000 in
theorem c_verdict (l : Launch) (D : va_G) (ca : Nat → ClassId) (sz : Nat) (h0 : Nat) (j0 : Int32) (t0 : Nat) (l0 : Nat) (s0 : Nat) (y0 : Nat) (c0 : Nat) (b0 : Nat) (e0 : Nat) (n0 : Nat) (w0 : Nat) (i0 : Nat) (g0 : Nat) (a0 : Nat) (k0 : Nat) (z0 : Nat) (l0_jurorName : Nat) (l0_floorName : Nat) (l0_caseName : Nat) (l0_pitch : Nat) (l0_length : Nat) (l0_hands : Nat) (l0_tune : Nat) (l0_dull : Nat) (l0_caseFloor : Nat) (l0_tuned : Nat) (s0_dents : Nat) (s0_drops : Nat) (s0_how : Nat) (s0_triedOn : Nat) (s0_dropped : Nat) (s0_heldOn : Nat)  : oMet l yX11_verdict wsX11_verdict ({ frames := 2, cells := 0, slots := 0, locals := 43 } : Room) [.ref h0, .int j0] D ca sz [(h0, .inr (10, [.ref t0, .ref l0, .ref s0, .ref y0, .ref c0, .ref b0, .ref e0, .ref n0, .ref w0, .ref i0, .ref g0, .ref a0, .ref k0, .ref z0, .int 0])), (l0, .inr (5, [.int 0, .int 0, .int 0, .int 3, .int 1, .int 0, .ref l0_jurorName, .ref l0_floorName, .ref l0_caseName, .ref l0_pitch, .ref l0_length, .ref l0_hands, .ref l0_tune, .ref l0_dull, .ref l0_caseFloor, .ref l0_tuned])), (s0, .inr (9, [.int 0, .int 0, .int 0, .int 0, .int 0, .ref s0_dents, .ref s0_drops, .ref s0_how, .ref s0_triedOn, .ref s0_dropped, .ref s0_heldOn]))] (oQi D (fun (r : Int32) (u : Unit) => r = (-1)) (fun (u : Unit) => [(h0, .inr (10, [.ref t0, .ref l0, .ref s0, .ref y0, .ref c0, .ref b0, .ref e0, .ref n0, .ref w0, .ref i0, .ref g0, .ref a0, .ref k0, .ref z0, .int 0])), (l0, .inr (5, [.int 0, .int 0, .int 0, .int 3, .int 1, .int 0, .ref l0_jurorName, .ref l0_floorName, .ref l0_caseName, .ref l0_pitch, .ref l0_length, .ref l0_hands, .ref l0_tune, .ref l0_dull, .ref l0_caseFloor, .ref l0_tuned])), (s0, .inr (9, [.int 0, .int 0, .int 0, .int 0, .int 0, .ref s0_dents, .ref s0_drops, .ref s0_how, .ref s0_triedOn, .ref s0_dropped, .ref s0_heldOn]))])) 0 0 := by
  refine oM (cc := cX11_verdict) (maxL := 3) (ret := (some .int)) (by decide) rfl (Nat.le_of_ble_eq_true rfl) [(0, .ref h0), (1, .int j0)] rfl ?_
  intro p e s m below meth c A H locs ls hx hb hr hml hts hown hlocks hin hK hP hD hA hS hl
  have hown : s.vm.findClass RX11 = some m.cls := hown
  refine lv_aload_n hx hb dX11_verdict_0 rfl (lv_at hl 0 rfl) ?_
  refine lv_iload_n hx hb dX11_verdict_1 rfl (lv_at hl 1 rfl) ?_
  refine oC_i (Wc := [(h0, .inr (10, [.ref t0, .ref l0, .ref s0, .ref y0, .ref c0, .ref b0, .ref e0, .ref n0, .ref w0, .ref i0, .ref g0, .ref a0, .ref k0, .ref z0, .int 0])), (l0, .inr (5, [.int 0, .int 0, .int 0, .int 3, .int 1, .int 0, .ref l0_jurorName, .ref l0_floorName, .ref l0_caseName, .ref l0_pitch, .ref l0_length, .ref l0_hands, .ref l0_tune, .ref l0_dull, .ref l0_caseFloor, .ref l0_tuned])), (s0, .inr (9, [.int 0, .int 0, .int 0, .int 0, .int 0, .ref s0_dents, .ref s0_drops, .ref s0_how, .ref s0_triedOn, .ref s0_dropped, .ref s0_heldOn]))]) (Wr := []) (va_runV (As := [.int j0]) (rest := []) ⟨hx, hb, hml, hown, hts⟩ (c_spread l D ca H.size h0 j0 t0 l0 s0 y0 c0 b0 e0 n0 w0 i0 g0 a0 k0 z0 l0_jurorName l0_floorName l0_caseName l0_pitch l0_length l0_hands l0_tune l0_dull l0_caseFloor l0_tuned s0_dents s0_drops s0_how s0_triedOn s0_dropped s0_heldOn) (cwV 1 hts gX11_verdict_X11_spread rfl rfl rfl (by decide +kernel) ⟨Nat.le_of_ble_eq_true rfl, Nat.le_of_ble_eq_true rfl⟩) (oPV (C := RX11) hK hP hD [0, 1, 2] rfl (by decide) 0 rfl (ci := 10) rfl rfl) rfl rfl hl.1 rfl (lv_room (Nat.le_of_ble_eq_true rfl)) dX11_verdict_2 ⟨Nat.le_of_ble_eq_true rfl, Nat.le_of_ble_eq_true rfl⟩) hP hD hS hA [0, 1, 2] [] rfl rfl (by decide) (by decide) (fun r_1 u H locs w_2 hP hD hS => ?_)
  obtain ⟨⟩ := u
  try dsimp only at w_2
  subst w_2
  have hP : va_P D vwCl [(h0, .inr (10, [.ref t0, .ref l0, .ref s0, .ref y0, .ref c0, .ref b0, .ref e0, .ref n0, .ref w0, .ref i0, .ref g0, .ref a0, .ref k0, .ref z0, .int 0])), (l0, .inr (5, [.int 0, .int 0, .int 0, .int 3, .int 1, .int 0, .ref l0_jurorName, .ref l0_floorName, .ref l0_caseName, .ref l0_pitch, .ref l0_length, .ref l0_hands, .ref l0_tune, .ref l0_dull, .ref l0_caseFloor, .ref l0_tuned])), (s0, .inr (9, [.int 0, .int 0, .int 0, .int 0, .int 0, .ref s0_dents, .ref s0_drops, .ref s0_how, .ref s0_triedOn, .ref s0_dropped, .ref s0_heldOn]))] H := hP
  have hD : va_D A [(h0, .inr (10, [.ref t0, .ref l0, .ref s0, .ref y0, .ref c0, .ref b0, .ref e0, .ref n0, .ref w0, .ref i0, .ref g0, .ref a0, .ref k0, .ref z0, .int 0])), (l0, .inr (5, [.int 0, .int 0, .int 0, .int 3, .int 1, .int 0, .ref l0_jurorName, .ref l0_floorName, .ref l0_caseName, .ref l0_pitch, .ref l0_length, .ref l0_hands, .ref l0_tune, .ref l0_dull, .ref l0_caseFloor, .ref l0_tuned])), (s0, .inr (9, [.int 0, .int 0, .int 0, .int 0, .int 0, .ref s0_dents, .ref s0_drops, .ref s0_how, .ref s0_triedOn, .ref s0_dropped, .ref s0_heldOn]))] := hD
  refine lv_istore_n (lv' := [(2, .int (-1)), (0, .ref h0), (1, .int j0)]) hx hb dX11_verdict_5 rfl hl (by decide) rfl (fun ls hl => ?_)
  refine lv_iload_n hx hb dX11_verdict_6 rfl (lv_at hl 0 rfl) ?_
  refine lv_iconst (v := (-1)) hx hb dX11_verdict_7 (by decide) ?_
  refine lv_icmp_ne (tgt := 13) hx hb dX11_verdict_8 (by decide) (fun c => absurd (by decide) c) (fun _ => ?_)
  refine lv_iconst (v := (-1)) hx hb dX11_verdict_11 (by decide) ?_
  exact oE_i hx hb hr rfl hlocks hP hD hS () [0, 1, 2] rfl (by decide) rfl (Nat.le_of_ble_eq_true rfl) (Nat.le_of_ble_eq_true rfl) dX11_verdict_12
theorem dX11_strikes_0 : decode cX11_strikes 0 = .ok (.aload_n 0, 1) := by decide +kernel
theorem dX11_strikes_1 : decode cX11_strikes 1 = .ok (.iload_n 1, 1) := by decide +kernel
theorem dX11_strikes_2 : decode cX11_strikes 2 = .ok (.invokevirtual 164, 3) := by decide +kernel
theorem dX11_strikes_5 : decode cX11_strikes 5 = .ok (.ifCond .eq 22, 3) := by decide +kernel
theorem dX11_strikes_27 : decode cX11_strikes 27 = .ok (.iconst (-1), 1) := by decide +kernel
theorem dX11_strikes_28 : decode cX11_strikes 28 = .ok (.ireturn, 1) := by decide +kernel
set_option maxRecDepth 20000 in
theorem ggX11_strikes_X11_isCase : GoodIn wsX11_strikes wsX11_isCase := goodIn_r _ [13, 4, 14, 75, 76, 77, 78, 79, 80, 81, 82, 83, 84, 85, 86, 87, 88, 89, 101, 102, 103, 104, 105, 106, 107, 108, 109, 110, 111, 112, 113, 114, 115, 116] rfl (by decide +kernel)
set_option maxRecDepth 20000 in
theorem gX11_strikes_X11_isCase : GoodIn wsX11_strikes (wsV RX11 164 RX11 yX11_isCase wsX11_isCase) := goodIn_app (goodIn_of _ (by decide +kernel)) ggX11_strikes_X11_isCase
set_option maxHeartbeats 4000000 in
set_option maxRecDepth 100000 in
theorem c_strikes (l : Launch) (D : va_G) (ca : Nat → ClassId) (sz : Nat) (h0 : Nat) (j0 : Int32) (j1 : Int32) (t0 : Nat) (l0 : Nat) (s0 : Nat) (y0 : Nat) (c0 : Nat) (b0 : Nat) (e0 : Nat) (n0 : Nat) (w0 : Nat) (i0 : Nat) (g0 : Nat) (a0 : Nat) (k0 : Nat) (z0 : Nat) (l0_jurorName : Nat) (l0_floorName : Nat) (l0_caseName : Nat) (l0_pitch : Nat) (l0_length : Nat) (l0_hands : Nat) (l0_tune : Nat) (l0_dull : Nat) (l0_caseFloor : Nat) (l0_tuned : Nat) (s0_dents : Nat) (s0_drops : Nat) (s0_how : Nat) (s0_triedOn : Nat) (s0_dropped : Nat) (s0_heldOn : Nat)  : oMet l yX11_strikes wsX11_strikes ({ frames := 1, cells := 0, slots := 0, locals := 21 } : Room) [.ref h0, .int j0, .int j1] D ca sz [(h0, .inr (10, [.ref t0, .ref l0, .ref s0, .ref y0, .ref c0, .ref b0, .ref e0, .ref n0, .ref w0, .ref i0, .ref g0, .ref a0, .ref k0, .ref z0, .int 0])), (l0, .inr (5, [.int 0, .int 0, .int 0, .int 3, .int 1, .int 0, .ref l0_jurorName, .ref l0_floorName, .ref l0_caseName, .ref l0_pitch, .ref l0_length, .ref l0_hands, .ref l0_tune, .ref l0_dull, .ref l0_caseFloor, .ref l0_tuned])), (s0, .inr (9, [.int 0, .int 0, .int 0, .int 0, .int 0, .ref s0_dents, .ref s0_drops, .ref s0_how, .ref s0_triedOn, .ref s0_dropped, .ref s0_heldOn]))] (oQi D (fun (r : Int32) (u : Unit) => r = (-1)) (fun (u : Unit) => [(h0, .inr (10, [.ref t0, .ref l0, .ref s0, .ref y0, .ref c0, .ref b0, .ref e0, .ref n0, .ref w0, .ref i0, .ref g0, .ref a0, .ref k0, .ref z0, .int 0])), (l0, .inr (5, [.int 0, .int 0, .int 0, .int 3, .int 1, .int 0, .ref l0_jurorName, .ref l0_floorName, .ref l0_caseName, .ref l0_pitch, .ref l0_length, .ref l0_hands, .ref l0_tune, .ref l0_dull, .ref l0_caseFloor, .ref l0_tuned])), (s0, .inr (9, [.int 0, .int 0, .int 0, .int 0, .int 0, .ref s0_dents, .ref s0_drops, .ref s0_how, .ref s0_triedOn, .ref s0_dropped, .ref s0_heldOn]))])) 0 0 := by
  refine oM (cc := cX11_strikes) (maxL := 3) (ret := (some .int)) (by decide) rfl (Nat.le_of_ble_eq_true rfl) [(0, .ref h0), (1, .int j0), (2, .int j1)] rfl ?_
  intro p e s m below meth c A H locs ls hx hb hr hml hts hown hlocks hin hK hP hD hA hS hl
  have hown : s.vm.findClass RX11 = some m.cls := hown
  refine lv_aload_n hx hb dX11_strikes_0 rfl (lv_at hl 0 rfl) ?_
  refine lv_iload_n hx hb dX11_strikes_1 rfl (lv_at hl 1 rfl) ?_
  refine oC_i (Wc := [(h0, .inr (10, [.ref t0, .ref l0, .ref s0, .ref y0, .ref c0, .ref b0, .ref e0, .ref n0, .ref w0, .ref i0, .ref g0, .ref a0, .ref k0, .ref z0, .int 0])), (l0, .inr (5, [.int 0, .int 0, .int 0, .int 3, .int 1, .int 0, .ref l0_jurorName, .ref l0_floorName, .ref l0_caseName, .ref l0_pitch, .ref l0_length, .ref l0_hands, .ref l0_tune, .ref l0_dull, .ref l0_caseFloor, .ref l0_tuned]))]) (Wr := [(s0, .inr (9, [.int 0, .int 0, .int 0, .int 0, .int 0, .ref s0_dents, .ref s0_drops, .ref s0_how, .ref s0_triedOn, .ref s0_dropped, .ref s0_heldOn]))]) (va_runV (As := [.int j0]) (rest := []) ⟨hx, hb, hml, hown, hts⟩ (c_isCase l D ca H.size h0 j0 t0 l0 s0 y0 c0 b0 e0 n0 w0 i0 g0 a0 k0 z0 l0_jurorName l0_floorName l0_caseName l0_pitch l0_length l0_hands l0_tune l0_dull l0_caseFloor l0_tuned) (cwV 1 hts gX11_strikes_X11_isCase rfl rfl rfl (by decide +kernel) ⟨Nat.le_of_ble_eq_true rfl, Nat.le_of_ble_eq_true rfl⟩) (oPV (C := RX11) hK hP hD [0, 1] rfl (by decide) 0 rfl (ci := 10) rfl rfl) rfl rfl hl.1 rfl (lv_room (Nat.le_of_ble_eq_true rfl)) dX11_strikes_2 ⟨Nat.le_of_ble_eq_true rfl, Nat.le_of_ble_eq_true rfl⟩) hP hD hS hA [0, 1] [2] rfl rfl (by decide) (by decide) (fun r_1 u H locs w_2 hP hD hS => ?_)
  obtain ⟨⟩ := u
  try dsimp only at w_2
  subst w_2
  have hP : va_P D vwCl [(s0, .inr (9, [.int 0, .int 0, .int 0, .int 0, .int 0, .ref s0_dents, .ref s0_drops, .ref s0_how, .ref s0_triedOn, .ref s0_dropped, .ref s0_heldOn])), (h0, .inr (10, [.ref t0, .ref l0, .ref s0, .ref y0, .ref c0, .ref b0, .ref e0, .ref n0, .ref w0, .ref i0, .ref g0, .ref a0, .ref k0, .ref z0, .int 0])), (l0, .inr (5, [.int 0, .int 0, .int 0, .int 3, .int 1, .int 0, .ref l0_jurorName, .ref l0_floorName, .ref l0_caseName, .ref l0_pitch, .ref l0_length, .ref l0_hands, .ref l0_tune, .ref l0_dull, .ref l0_caseFloor, .ref l0_tuned]))] H := hP
  have hD : va_D A [(s0, .inr (9, [.int 0, .int 0, .int 0, .int 0, .int 0, .ref s0_dents, .ref s0_drops, .ref s0_how, .ref s0_triedOn, .ref s0_dropped, .ref s0_heldOn])), (h0, .inr (10, [.ref t0, .ref l0, .ref s0, .ref y0, .ref c0, .ref b0, .ref e0, .ref n0, .ref w0, .ref i0, .ref g0, .ref a0, .ref k0, .ref z0, .int 0])), (l0, .inr (5, [.int 0, .int 0, .int 0, .int 3, .int 1, .int 0, .ref l0_jurorName, .ref l0_floorName, .ref l0_caseName, .ref l0_pitch, .ref l0_length, .ref l0_hands, .ref l0_tune, .ref l0_dull, .ref l0_caseFloor, .ref l0_tuned]))] := hD
  refine lv_if_eq (tgt := 27) hx hb dX11_strikes_5 (by decide) (fun _ => ?_) (fun c => absurd (by decide) c)
  refine lv_iconst (v := (-1)) hx hb dX11_strikes_27 (by decide) ?_
  exact oE_i hx hb hr rfl hlocks hP hD hS () [1, 2, 0] rfl (by decide) rfl (Nat.le_of_ble_eq_true rfl) (Nat.le_of_ble_eq_true rfl) dX11_strikes_28
theorem dX11_agreed_0 : decode cX11_agreed 0 = .ok (.aload_n 0, 1) := by decide +kernel
theorem dX11_agreed_1 : decode cX11_agreed 1 = .ok (.getfield 83, 3) := by decide +kernel
theorem dX11_agreed_4 : decode cX11_agreed 4 = .ok (.iconst 0, 1) := by decide +kernel
theorem dX11_agreed_5 : decode cX11_agreed 5 = .ok (.iaload, 1) := by decide +kernel
theorem dX11_agreed_6 : decode cX11_agreed 6 = .ok (.ireturn, 1) := by decide +kernel
set_option maxHeartbeats 4000000 in
set_option maxRecDepth 100000 in
theorem c_agreed (l : Launch) (D : va_G) (ca : Nat → ClassId) (sz : Nat) (h0 : Nat) (t0 : Nat) (l0 : Nat) (s0 : Nat) (y0 : Nat) (c0 : Nat) (b0 : Nat) (e0 : Nat) (n0 : Nat) (w0 : Nat) (i0 : Nat) (g0 : Nat) (a0 : Nat) (k0 : Nat) (z0 : Nat) (f_a0 : Nat → Int32) (ha0 : ∀ j, 0 ≤ j → j < 7 → f_a0 j = (-1)) : oMet l yX11_agreed wsX11_agreed ({ frames := 0, cells := 0, slots := 0, locals := 0 } : Room) [.ref h0] D ca sz [(h0, .inr (10, [.ref t0, .ref l0, .ref s0, .ref y0, .ref c0, .ref b0, .ref e0, .ref n0, .ref w0, .ref i0, .ref g0, .ref a0, .ref k0, .ref z0, .int 0])), (aI ca a0 7 f_a0)] (oQi D (fun (r : Int32) (u : Unit) => r = (-1) ∧ ∀ j, 0 ≤ j → j < 7 → f_a0 j = (-1)) (fun (u : Unit) => [(h0, .inr (10, [.ref t0, .ref l0, .ref s0, .ref y0, .ref c0, .ref b0, .ref e0, .ref n0, .ref w0, .ref i0, .ref g0, .ref a0, .ref k0, .ref z0, .int 0])), (aI ca a0 7 f_a0)])) 0 0 := by
  refine oM (cc := cX11_agreed) (maxL := 1) (ret := (some .int)) (by decide) rfl (Nat.le_of_ble_eq_true rfl) [(0, .ref h0)] rfl ?_
  intro p e s m below meth c A H locs ls hx hb hr hml hts hown hlocks hin hK hP hD hA hS hl
  have hown : s.vm.findClass RX11 = some m.cls := hown
  have k1 := hts (.fieldLink RX11 83 "LidCourt" "latest" "[I") (by decide +kernel)
  have k2 : ∀ w ∈ wsX110, w ∈ wsX11_agreed := fun _ h => List.mem_cons_of_mem _ (List.mem_append_right _ h)
  refine lv_aload_n hx hb dX11_agreed_0 rfl (lv_at hl 0 rfl) ?_
  refine va_get (D := D) (ci := 10) (v := .ref a0) (C := RX11) (T := TX11) (N := 15) hx hb hts k2 hown hK.1 hP 0 rfl rfl 11 (by decide) k1 (fun _ h9 => h9) rfl dX11_agreed_1 ?_
  refine lv_iconst (v := 0) hx hb dX11_agreed_4 (by decide) ?_
  refine va_iald hx hb hK.1 hP 1 0 rfl rfl (oin (k := 0) (by decide) (by decide) rfl) dX11_agreed_5 ?_
  refine oti (-1) ((oat f_a0 0 (i := 0) rfl (by decide)).trans (ha0 _ (by decide) (by decide))) ?_
  exact oE_i hx hb hr rfl hlocks hP hD hS () [0, 1] rfl (by decide) ⟨rfl, ha0⟩ (Nat.le_of_ble_eq_true rfl) (Nat.le_of_ble_eq_true rfl) dX11_agreed_6
theorem dX11_jurors_0 : decode cX11_jurors 0 = .ok (.aload_n 0, 1) := by decide +kernel
theorem dX11_jurors_1 : decode cX11_jurors 1 = .ok (.getfield 83, 3) := by decide +kernel
theorem dX11_jurors_4 : decode cX11_jurors 4 = .ok (.iconst 1, 1) := by decide +kernel
theorem dX11_jurors_5 : decode cX11_jurors 5 = .ok (.iaload, 1) := by decide +kernel
theorem dX11_jurors_6 : decode cX11_jurors 6 = .ok (.ireturn, 1) := by decide +kernel
set_option maxHeartbeats 4000000 in
set_option maxRecDepth 100000 in
theorem c_jurors (l : Launch) (D : va_G) (ca : Nat → ClassId) (sz : Nat) (h0 : Nat) (t0 : Nat) (l0 : Nat) (s0 : Nat) (y0 : Nat) (c0 : Nat) (b0 : Nat) (e0 : Nat) (n0 : Nat) (w0 : Nat) (i0 : Nat) (g0 : Nat) (a0 : Nat) (k0 : Nat) (z0 : Nat) (f_a0 : Nat → Int32) (ha0 : ∀ j, 0 ≤ j → j < 7 → f_a0 j = (-1)) : oMet l yX11_jurors wsX11_jurors ({ frames := 0, cells := 0, slots := 0, locals := 0 } : Room) [.ref h0] D ca sz [(h0, .inr (10, [.ref t0, .ref l0, .ref s0, .ref y0, .ref c0, .ref b0, .ref e0, .ref n0, .ref w0, .ref i0, .ref g0, .ref a0, .ref k0, .ref z0, .int 0])), (aI ca a0 7 f_a0)] (oQi D (fun (r : Int32) (u : Unit) => r = (-1) ∧ ∀ j, 0 ≤ j → j < 7 → f_a0 j = (-1)) (fun (u : Unit) => [(h0, .inr (10, [.ref t0, .ref l0, .ref s0, .ref y0, .ref c0, .ref b0, .ref e0, .ref n0, .ref w0, .ref i0, .ref g0, .ref a0, .ref k0, .ref z0, .int 0])), (aI ca a0 7 f_a0)])) 0 0 := by
  refine oM (cc := cX11_jurors) (maxL := 1) (ret := (some .int)) (by decide) rfl (Nat.le_of_ble_eq_true rfl) [(0, .ref h0)] rfl ?_
  intro p e s m below meth c A H locs ls hx hb hr hml hts hown hlocks hin hK hP hD hA hS hl
  have hown : s.vm.findClass RX11 = some m.cls := hown
  have k1 := hts (.fieldLink RX11 83 "LidCourt" "latest" "[I") (by decide +kernel)
  have k2 : ∀ w ∈ wsX110, w ∈ wsX11_jurors := fun _ h => List.mem_cons_of_mem _ (List.mem_append_right _ h)
  refine lv_aload_n hx hb dX11_jurors_0 rfl (lv_at hl 0 rfl) ?_
  refine va_get (D := D) (ci := 10) (v := .ref a0) (C := RX11) (T := TX11) (N := 15) hx hb hts k2 hown hK.1 hP 0 rfl rfl 11 (by decide) k1 (fun _ h9 => h9) rfl dX11_jurors_1 ?_
  refine lv_iconst (v := 1) hx hb dX11_jurors_4 (by decide) ?_
  refine va_iald hx hb hK.1 hP 1 0 rfl rfl (oin (k := 1) (by decide) (by decide) rfl) dX11_jurors_5 ?_
  refine oti (-1) ((oat f_a0 1 (i := 1) rfl (by decide)).trans (ha0 _ (by decide) (by decide))) ?_
  exact oE_i hx hb hr rfl hlocks hP hD hS () [0, 1] rfl (by decide) ⟨rfl, ha0⟩ (Nat.le_of_ble_eq_true rfl) (Nat.le_of_ble_eq_true rfl) dX11_jurors_6
theorem dX11_panelled_0 : decode cX11_panelled 0 = .ok (.aload_n 0, 1) := by decide +kernel
theorem dX11_panelled_1 : decode cX11_panelled 1 = .ok (.getfield 83, 3) := by decide +kernel
theorem dX11_panelled_4 : decode cX11_panelled 4 = .ok (.iconst 2, 1) := by decide +kernel
theorem dX11_panelled_5 : decode cX11_panelled 5 = .ok (.iaload, 1) := by decide +kernel
theorem dX11_panelled_6 : decode cX11_panelled 6 = .ok (.ireturn, 1) := by decide +kernel
set_option maxHeartbeats 4000000 in
set_option maxRecDepth 100000 in
theorem c_panelled (l : Launch) (D : va_G) (ca : Nat → ClassId) (sz : Nat) (h0 : Nat) (t0 : Nat) (l0 : Nat) (s0 : Nat) (y0 : Nat) (c0 : Nat) (b0 : Nat) (e0 : Nat) (n0 : Nat) (w0 : Nat) (i0 : Nat) (g0 : Nat) (a0 : Nat) (k0 : Nat) (z0 : Nat) (f_a0 : Nat → Int32) (ha0 : ∀ j, 0 ≤ j → j < 7 → f_a0 j = (-1)) : oMet l yX11_panelled wsX11_panelled ({ frames := 0, cells := 0, slots := 0, locals := 0 } : Room) [.ref h0] D ca sz [(h0, .inr (10, [.ref t0, .ref l0, .ref s0, .ref y0, .ref c0, .ref b0, .ref e0, .ref n0, .ref w0, .ref i0, .ref g0, .ref a0, .ref k0, .ref z0, .int 0])), (aI ca a0 7 f_a0)] (oQi D (fun (r : Int32) (u : Unit) => r = (-1) ∧ ∀ j, 0 ≤ j → j < 7 → f_a0 j = (-1)) (fun (u : Unit) => [(h0, .inr (10, [.ref t0, .ref l0, .ref s0, .ref y0, .ref c0, .ref b0, .ref e0, .ref n0, .ref w0, .ref i0, .ref g0, .ref a0, .ref k0, .ref z0, .int 0])), (aI ca a0 7 f_a0)])) 0 0 := by
  refine oM (cc := cX11_panelled) (maxL := 1) (ret := (some .int)) (by decide) rfl (Nat.le_of_ble_eq_true rfl) [(0, .ref h0)] rfl ?_
  intro p e s m below meth c A H locs ls hx hb hr hml hts hown hlocks hin hK hP hD hA hS hl
  have hown : s.vm.findClass RX11 = some m.cls := hown
  have k1 := hts (.fieldLink RX11 83 "LidCourt" "latest" "[I") (by decide +kernel)
  have k2 : ∀ w ∈ wsX110, w ∈ wsX11_panelled := fun _ h => List.mem_cons_of_mem _ (List.mem_append_right _ h)
  refine lv_aload_n hx hb dX11_panelled_0 rfl (lv_at hl 0 rfl) ?_
  refine va_get (D := D) (ci := 10) (v := .ref a0) (C := RX11) (T := TX11) (N := 15) hx hb hts k2 hown hK.1 hP 0 rfl rfl 11 (by decide) k1 (fun _ h9 => h9) rfl dX11_panelled_1 ?_
  refine lv_iconst (v := 2) hx hb dX11_panelled_4 (by decide) ?_
  refine va_iald hx hb hK.1 hP 1 0 rfl rfl (oin (k := 2) (by decide) (by decide) rfl) dX11_panelled_5 ?_
  refine oti (-1) ((oat f_a0 2 (i := 2) rfl (by decide)).trans (ha0 _ (by decide) (by decide))) ?_
  exact oE_i hx hb hr rfl hlocks hP hD hS () [0, 1] rfl (by decide) ⟨rfl, ha0⟩ (Nat.le_of_ble_eq_true rfl) (Nat.le_of_ble_eq_true rfl) dX11_panelled_6
theorem dX11_surely_0 : decode cX11_surely 0 = .ok (.aload_n 0, 1) := by decide +kernel
theorem dX11_surely_1 : decode cX11_surely 1 = .ok (.getfield 83, 3) := by decide +kernel
theorem dX11_surely_4 : decode cX11_surely 4 = .ok (.iconst 3, 1) := by decide +kernel
theorem dX11_surely_5 : decode cX11_surely 5 = .ok (.iaload, 1) := by decide +kernel
theorem dX11_surely_6 : decode cX11_surely 6 = .ok (.ireturn, 1) := by decide +kernel
set_option maxHeartbeats 4000000 in
set_option maxRecDepth 100000 in
theorem c_surely (l : Launch) (D : va_G) (ca : Nat → ClassId) (sz : Nat) (h0 : Nat) (t0 : Nat) (l0 : Nat) (s0 : Nat) (y0 : Nat) (c0 : Nat) (b0 : Nat) (e0 : Nat) (n0 : Nat) (w0 : Nat) (i0 : Nat) (g0 : Nat) (a0 : Nat) (k0 : Nat) (z0 : Nat) (f_a0 : Nat → Int32) (ha0 : ∀ j, 0 ≤ j → j < 7 → f_a0 j = (-1)) : oMet l yX11_surely wsX11_surely ({ frames := 0, cells := 0, slots := 0, locals := 0 } : Room) [.ref h0] D ca sz [(h0, .inr (10, [.ref t0, .ref l0, .ref s0, .ref y0, .ref c0, .ref b0, .ref e0, .ref n0, .ref w0, .ref i0, .ref g0, .ref a0, .ref k0, .ref z0, .int 0])), (aI ca a0 7 f_a0)] (oQi D (fun (r : Int32) (u : Unit) => r = (-1) ∧ ∀ j, 0 ≤ j → j < 7 → f_a0 j = (-1)) (fun (u : Unit) => [(h0, .inr (10, [.ref t0, .ref l0, .ref s0, .ref y0, .ref c0, .ref b0, .ref e0, .ref n0, .ref w0, .ref i0, .ref g0, .ref a0, .ref k0, .ref z0, .int 0])), (aI ca a0 7 f_a0)])) 0 0 := by
  refine oM (cc := cX11_surely) (maxL := 1) (ret := (some .int)) (by decide) rfl (Nat.le_of_ble_eq_true rfl) [(0, .ref h0)] rfl ?_
  intro p e s m below meth c A H locs ls hx hb hr hml hts hown hlocks hin hK hP hD hA hS hl
  have hown : s.vm.findClass RX11 = some m.cls := hown
  have k1 := hts (.fieldLink RX11 83 "LidCourt" "latest" "[I") (by decide +kernel)
  have k2 : ∀ w ∈ wsX110, w ∈ wsX11_surely := fun _ h => List.mem_cons_of_mem _ (List.mem_append_right _ h)
  refine lv_aload_n hx hb dX11_surely_0 rfl (lv_at hl 0 rfl) ?_
  refine va_get (D := D) (ci := 10) (v := .ref a0) (C := RX11) (T := TX11) (N := 15) hx hb hts k2 hown hK.1 hP 0 rfl rfl 11 (by decide) k1 (fun _ h9 => h9) rfl dX11_surely_1 ?_
  refine lv_iconst (v := 3) hx hb dX11_surely_4 (by decide) ?_
  refine va_iald hx hb hK.1 hP 1 0 rfl rfl (oin (k := 3) (by decide) (by decide) rfl) dX11_surely_5 ?_
  refine oti (-1) ((oat f_a0 3 (i := 3) rfl (by decide)).trans (ha0 _ (by decide) (by decide))) ?_
  exact oE_i hx hb hr rfl hlocks hP hD hS () [0, 1] rfl (by decide) ⟨rfl, ha0⟩ (Nat.le_of_ble_eq_true rfl) (Nat.le_of_ble_eq_true rfl) dX11_surely_6
theorem dX11_ask_0 : decode cX11_ask 0 = .ok (.aload_n 0, 1) := by decide +kernel
theorem dX11_ask_1 : decode cX11_ask 1 = .ok (.getfield 83, 3) := by decide +kernel
theorem dX11_ask_4 : decode cX11_ask 4 = .ok (.iconst 4, 1) := by decide +kernel
theorem dX11_ask_5 : decode cX11_ask 5 = .ok (.iaload, 1) := by decide +kernel
theorem dX11_ask_6 : decode cX11_ask 6 = .ok (.ireturn, 1) := by decide +kernel
set_option maxHeartbeats 4000000 in
set_option maxRecDepth 100000 in
theorem c_ask (l : Launch) (D : va_G) (ca : Nat → ClassId) (sz : Nat) (h0 : Nat) (t0 : Nat) (l0 : Nat) (s0 : Nat) (y0 : Nat) (c0 : Nat) (b0 : Nat) (e0 : Nat) (n0 : Nat) (w0 : Nat) (i0 : Nat) (g0 : Nat) (a0 : Nat) (k0 : Nat) (z0 : Nat) (f_a0 : Nat → Int32) (ha0 : ∀ j, 0 ≤ j → j < 7 → f_a0 j = (-1)) : oMet l yX11_ask wsX11_ask ({ frames := 0, cells := 0, slots := 0, locals := 0 } : Room) [.ref h0] D ca sz [(h0, .inr (10, [.ref t0, .ref l0, .ref s0, .ref y0, .ref c0, .ref b0, .ref e0, .ref n0, .ref w0, .ref i0, .ref g0, .ref a0, .ref k0, .ref z0, .int 0])), (aI ca a0 7 f_a0)] (oQi D (fun (r : Int32) (u : Unit) => r = (-1) ∧ ∀ j, 0 ≤ j → j < 7 → f_a0 j = (-1)) (fun (u : Unit) => [(h0, .inr (10, [.ref t0, .ref l0, .ref s0, .ref y0, .ref c0, .ref b0, .ref e0, .ref n0, .ref w0, .ref i0, .ref g0, .ref a0, .ref k0, .ref z0, .int 0])), (aI ca a0 7 f_a0)])) 0 0 := by
  refine oM (cc := cX11_ask) (maxL := 1) (ret := (some .int)) (by decide) rfl (Nat.le_of_ble_eq_true rfl) [(0, .ref h0)] rfl ?_
  intro p e s m below meth c A H locs ls hx hb hr hml hts hown hlocks hin hK hP hD hA hS hl
  have hown : s.vm.findClass RX11 = some m.cls := hown
  have k1 := hts (.fieldLink RX11 83 "LidCourt" "latest" "[I") (by decide +kernel)
  have k2 : ∀ w ∈ wsX110, w ∈ wsX11_ask := fun _ h => List.mem_cons_of_mem _ (List.mem_append_right _ h)
  refine lv_aload_n hx hb dX11_ask_0 rfl (lv_at hl 0 rfl) ?_
  refine va_get (D := D) (ci := 10) (v := .ref a0) (C := RX11) (T := TX11) (N := 15) hx hb hts k2 hown hK.1 hP 0 rfl rfl 11 (by decide) k1 (fun _ h9 => h9) rfl dX11_ask_1 ?_
  refine lv_iconst (v := 4) hx hb dX11_ask_4 (by decide) ?_
  refine va_iald hx hb hK.1 hP 1 0 rfl rfl (oin (k := 4) (by decide) (by decide) rfl) dX11_ask_5 ?_
  refine oti (-1) ((oat f_a0 4 (i := 4) rfl (by decide)).trans (ha0 _ (by decide) (by decide))) ?_
  exact oE_i hx hb hr rfl hlocks hP hD hS () [0, 1] rfl (by decide) ⟨rfl, ha0⟩ (Nat.le_of_ble_eq_true rfl) (Nat.le_of_ble_eq_true rfl) dX11_ask_6
theorem dX11_struck_0 : decode cX11_struck 0 = .ok (.aload_n 0, 1) := by decide +kernel
theorem dX11_struck_1 : decode cX11_struck 1 = .ok (.getfield 83, 3) := by decide +kernel
theorem dX11_struck_4 : decode cX11_struck 4 = .ok (.iconst 5, 1) := by decide +kernel
theorem dX11_struck_5 : decode cX11_struck 5 = .ok (.iaload, 1) := by decide +kernel
theorem dX11_struck_6 : decode cX11_struck 6 = .ok (.ireturn, 1) := by decide +kernel
set_option maxHeartbeats 4000000 in
set_option maxRecDepth 100000 in
theorem c_struck (l : Launch) (D : va_G) (ca : Nat → ClassId) (sz : Nat) (h0 : Nat) (t0 : Nat) (l0 : Nat) (s0 : Nat) (y0 : Nat) (c0 : Nat) (b0 : Nat) (e0 : Nat) (n0 : Nat) (w0 : Nat) (i0 : Nat) (g0 : Nat) (a0 : Nat) (k0 : Nat) (z0 : Nat) (f_a0 : Nat → Int32) (ha0 : ∀ j, 0 ≤ j → j < 7 → f_a0 j = (-1)) : oMet l yX11_struck wsX11_struck ({ frames := 0, cells := 0, slots := 0, locals := 0 } : Room) [.ref h0] D ca sz [(h0, .inr (10, [.ref t0, .ref l0, .ref s0, .ref y0, .ref c0, .ref b0, .ref e0, .ref n0, .ref w0, .ref i0, .ref g0, .ref a0, .ref k0, .ref z0, .int 0])), (aI ca a0 7 f_a0)] (oQi D (fun (r : Int32) (u : Unit) => r = (-1) ∧ ∀ j, 0 ≤ j → j < 7 → f_a0 j = (-1)) (fun (u : Unit) => [(h0, .inr (10, [.ref t0, .ref l0, .ref s0, .ref y0, .ref c0, .ref b0, .ref e0, .ref n0, .ref w0, .ref i0, .ref g0, .ref a0, .ref k0, .ref z0, .int 0])), (aI ca a0 7 f_a0)])) 0 0 := by
  refine oM (cc := cX11_struck) (maxL := 1) (ret := (some .int)) (by decide) rfl (Nat.le_of_ble_eq_true rfl) [(0, .ref h0)] rfl ?_
  intro p e s m below meth c A H locs ls hx hb hr hml hts hown hlocks hin hK hP hD hA hS hl
  have hown : s.vm.findClass RX11 = some m.cls := hown
  have k1 := hts (.fieldLink RX11 83 "LidCourt" "latest" "[I") (by decide +kernel)
  have k2 : ∀ w ∈ wsX110, w ∈ wsX11_struck := fun _ h => List.mem_cons_of_mem _ (List.mem_append_right _ h)
  refine lv_aload_n hx hb dX11_struck_0 rfl (lv_at hl 0 rfl) ?_
  refine va_get (D := D) (ci := 10) (v := .ref a0) (C := RX11) (T := TX11) (N := 15) hx hb hts k2 hown hK.1 hP 0 rfl rfl 11 (by decide) k1 (fun _ h9 => h9) rfl dX11_struck_1 ?_
  refine lv_iconst (v := 5) hx hb dX11_struck_4 (by decide) ?_
  refine va_iald hx hb hK.1 hP 1 0 rfl rfl (oin (k := 5) (by decide) (by decide) rfl) dX11_struck_5 ?_
  refine oti (-1) ((oat f_a0 5 (i := 5) rfl (by decide)).trans (ha0 _ (by decide) (by decide))) ?_
  exact oE_i hx hb hr rfl hlocks hP hD hS () [0, 1] rfl (by decide) ⟨rfl, ha0⟩ (Nat.le_of_ble_eq_true rfl) (Nat.le_of_ble_eq_true rfl) dX11_struck_6
theorem dX11_beating_0 : decode cX11_beating 0 = .ok (.aload_n 0, 1) := by decide +kernel
theorem dX11_beating_1 : decode cX11_beating 1 = .ok (.getfield 83, 3) := by decide +kernel
theorem dX11_beating_4 : decode cX11_beating 4 = .ok (.bipush 6, 2) := by decide +kernel
theorem dX11_beating_6 : decode cX11_beating 6 = .ok (.iaload, 1) := by decide +kernel
theorem dX11_beating_7 : decode cX11_beating 7 = .ok (.ireturn, 1) := by decide +kernel
set_option maxHeartbeats 4000000 in
set_option maxRecDepth 100000 in
theorem c_beating (l : Launch) (D : va_G) (ca : Nat → ClassId) (sz : Nat) (h0 : Nat) (t0 : Nat) (l0 : Nat) (s0 : Nat) (y0 : Nat) (c0 : Nat) (b0 : Nat) (e0 : Nat) (n0 : Nat) (w0 : Nat) (i0 : Nat) (g0 : Nat) (a0 : Nat) (k0 : Nat) (z0 : Nat) (f_a0 : Nat → Int32) (ha0 : ∀ j, 0 ≤ j → j < 7 → f_a0 j = (-1)) : oMet l yX11_beating wsX11_beating ({ frames := 0, cells := 0, slots := 0, locals := 0 } : Room) [.ref h0] D ca sz [(h0, .inr (10, [.ref t0, .ref l0, .ref s0, .ref y0, .ref c0, .ref b0, .ref e0, .ref n0, .ref w0, .ref i0, .ref g0, .ref a0, .ref k0, .ref z0, .int 0])), (aI ca a0 7 f_a0)] (oQi D (fun (r : Int32) (u : Unit) => r = (-1) ∧ ∀ j, 0 ≤ j → j < 7 → f_a0 j = (-1)) (fun (u : Unit) => [(h0, .inr (10, [.ref t0, .ref l0, .ref s0, .ref y0, .ref c0, .ref b0, .ref e0, .ref n0, .ref w0, .ref i0, .ref g0, .ref a0, .ref k0, .ref z0, .int 0])), (aI ca a0 7 f_a0)])) 0 0 := by
  refine oM (cc := cX11_beating) (maxL := 1) (ret := (some .int)) (by decide) rfl (Nat.le_of_ble_eq_true rfl) [(0, .ref h0)] rfl ?_
  intro p e s m below meth c A H locs ls hx hb hr hml hts hown hlocks hin hK hP hD hA hS hl
  have hown : s.vm.findClass RX11 = some m.cls := hown
  have k1 := hts (.fieldLink RX11 83 "LidCourt" "latest" "[I") (by decide +kernel)
  have k2 : ∀ w ∈ wsX110, w ∈ wsX11_beating := fun _ h => List.mem_cons_of_mem _ (List.mem_append_right _ h)
  refine lv_aload_n hx hb dX11_beating_0 rfl (lv_at hl 0 rfl) ?_
  refine va_get (D := D) (ci := 10) (v := .ref a0) (C := RX11) (T := TX11) (N := 15) hx hb hts k2 hown hK.1 hP 0 rfl rfl 11 (by decide) k1 (fun _ h9 => h9) rfl dX11_beating_1 ?_
  refine lv_bipush (v := 6) hx hb dX11_beating_4 (by decide) ?_
  refine va_iald hx hb hK.1 hP 1 0 rfl rfl (oin (k := 6) (by decide) (by decide) rfl) dX11_beating_6 ?_
  refine oti (-1) ((oat f_a0 6 (i := 6) rfl (by decide)).trans (ha0 _ (by decide) (by decide))) ?_
  exact oE_i hx hb hr rfl hlocks hP hD hS () [0, 1] rfl (by decide) ⟨rfl, ha0⟩ (Nat.le_of_ble_eq_true rfl) (Nat.le_of_ble_eq_true rfl) dX11_beating_7
theorem dX11_told_0 : decode cX11_told 0 = .ok (.iload_n 1, 1) := by decide +kernel
theorem dX11_told_1 : decode cX11_told 1 = .ok (.ifCond .lt 8, 3) := by decide +kernel
theorem dX11_told_4 : decode cX11_told 4 = .ok (.iload_n 1, 1) := by decide +kernel
theorem dX11_told_5 : decode cX11_told 5 = .ok (.iconst 4, 1) := by decide +kernel
theorem dX11_told_6 : decode cX11_told 6 = .ok (.if_icmp .lt 7, 3) := by decide +kernel
theorem dX11_told_9 : decode cX11_told 9 = .ok (.iconst (-1), 1) := by decide +kernel
theorem dX11_told_10 : decode cX11_told 10 = .ok (.goto 9, 3) := by decide +kernel
theorem dX11_told_13 : decode cX11_told 13 = .ok (.aload_n 0, 1) := by decide +kernel
theorem dX11_told_14 : decode cX11_told 14 = .ok (.getfield 87, 3) := by decide +kernel
theorem dX11_told_17 : decode cX11_told 17 = .ok (.iload_n 1, 1) := by decide +kernel
theorem dX11_told_18 : decode cX11_told 18 = .ok (.iaload, 1) := by decide +kernel
theorem dX11_told_19 : decode cX11_told 19 = .ok (.ireturn, 1) := by decide +kernel
set_option maxHeartbeats 4000000 in
set_option maxRecDepth 100000 in
theorem c_told (l : Launch) (D : va_G) (ca : Nat → ClassId) (sz : Nat) (h0 : Nat) (j0 : Int32) (t0 : Nat) (l0 : Nat) (s0 : Nat) (y0 : Nat) (c0 : Nat) (b0 : Nat) (e0 : Nat) (n0 : Nat) (w0 : Nat) (i0 : Nat) (g0 : Nat) (a0 : Nat) (k0 : Nat) (z0 : Nat) (f_k0 : Nat → Int32) (hk0 : ∀ j, 0 ≤ j → j < 4 → f_k0 j = (-1)) : oMet l yX11_told wsX11_told ({ frames := 0, cells := 0, slots := 0, locals := 0 } : Room) [.ref h0, .int j0] D ca sz [(h0, .inr (10, [.ref t0, .ref l0, .ref s0, .ref y0, .ref c0, .ref b0, .ref e0, .ref n0, .ref w0, .ref i0, .ref g0, .ref a0, .ref k0, .ref z0, .int 0])), (aI ca k0 4 f_k0)] (oQi D (fun (r : Int32) (u : Unit) => r = (-1) ∧ ∀ j, 0 ≤ j → j < 4 → f_k0 j = (-1)) (fun (u : Unit) => [(h0, .inr (10, [.ref t0, .ref l0, .ref s0, .ref y0, .ref c0, .ref b0, .ref e0, .ref n0, .ref w0, .ref i0, .ref g0, .ref a0, .ref k0, .ref z0, .int 0])), (aI ca k0 4 f_k0)])) 0 0 := by
  refine oM (cc := cX11_told) (maxL := 2) (ret := (some .int)) (by decide) rfl (Nat.le_of_ble_eq_true rfl) [(0, .ref h0), (1, .int j0)] rfl ?_
  intro p e s m below meth c A H locs ls hx hb hr hml hts hown hlocks hin hK hP hD hA hS hl
  have hown : s.vm.findClass RX11 = some m.cls := hown
  have k1 := hts (.fieldLink RX11 87 "LidCourt" "latestBook" "[I") (by decide +kernel)
  have k2 : ∀ w ∈ wsX110, w ∈ wsX11_told := fun _ h => List.mem_cons_of_mem _ (List.mem_append_right _ h)
  refine lv_iload_n hx hb dX11_told_0 rfl (lv_at hl 1 rfl) ?_
  refine lv_if_lt (tgt := 9) hx hb dX11_told_1 (by decide) (fun c_1 => ?_) (fun c_1 => ?_)
  · skip
    refine lv_iconst (v := (-1)) hx hb dX11_told_9 (by decide) ?_
    refine lv_goto (tgt := 19) hx hb dX11_told_10 (by decide) ?_
    exact oE_i hx hb hr rfl hlocks hP hD hS () [0, 1] rfl (by decide) ⟨rfl, hk0⟩ (Nat.le_of_ble_eq_true rfl) (Nat.le_of_ble_eq_true rfl) dX11_told_19
  · skip
    refine lv_iload_n hx hb dX11_told_4 rfl (lv_at hl 1 rfl) ?_
    refine lv_iconst (v := 4) hx hb dX11_told_5 (by decide) ?_
    refine lv_icmp_lt (tgt := 13) hx hb dX11_told_6 (by decide) (fun c_2 => ?_) (fun c_2 => ?_)
    · skip
      refine lv_aload_n hx hb dX11_told_13 rfl (lv_at hl 0 rfl) ?_
      refine va_get (D := D) (ci := 10) (v := .ref k0) (C := RX11) (T := TX11) (N := 15) hx hb hts k2 hown hK.1 hP 0 rfl rfl 12 (by decide) k1 (fun _ h9 => h9) rfl dX11_told_14 ?_
      refine lv_iload_n hx hb dX11_told_17 rfl (lv_at hl 1 rfl) ?_
      refine va_iald hx hb hK.1 hP 1 0 rfl rfl (vp_in_iff.mpr (by have a0 := c_1; have a1 := c_2; have z0 : (0 : Int32).toInt = 0 := (by decide); have z1 : (4 : Int32).toInt = 4 := (by decide); simp only [Int32.lt_iff_toInt_lt, Int32.le_iff_toInt_le, ← Int32.toInt_inj, z0, z1] at a0 a1 ; omega)) dX11_told_18 ?_
      refine oti (-1) (hk0 _ (Nat.zero_le _) (oclamp (vp_in_iff.mpr (by have a0 := c_1; have a1 := c_2; have z0 : (0 : Int32).toInt = 0 := (by decide); have z1 : (4 : Int32).toInt = 4 := (by decide); simp only [Int32.lt_iff_toInt_lt, Int32.le_iff_toInt_le, ← Int32.toInt_inj, z0, z1] at a0 a1 ; omega)))) ?_
      exact oE_i hx hb hr rfl hlocks hP hD hS () [0, 1] rfl (by decide) ⟨rfl, hk0⟩ (Nat.le_of_ble_eq_true rfl) (Nat.le_of_ble_eq_true rfl) dX11_told_19
    · skip
      refine lv_iconst (v := (-1)) hx hb dX11_told_9 (by decide) ?_
      refine lv_goto (tgt := 19) hx hb dX11_told_10 (by decide) ?_
      exact oE_i hx hb hr rfl hlocks hP hD hS () [0, 1] rfl (by decide) ⟨rfl, hk0⟩ (Nat.le_of_ble_eq_true rfl) (Nat.le_of_ble_eq_true rfl) dX11_told_19
theorem dX11_byteAt_0 : decode cX11_byteAt 0 = .ok (.iload_n 1, 1) := by decide +kernel
theorem dX11_byteAt_1 : decode cX11_byteAt 1 = .ok (.ifCond .lt 11, 3) := by decide +kernel
theorem dX11_byteAt_4 : decode cX11_byteAt 4 = .ok (.iload_n 1, 1) := by decide +kernel
theorem dX11_byteAt_5 : decode cX11_byteAt 5 = .ok (.aload_n 0, 1) := by decide +kernel
theorem dX11_byteAt_6 : decode cX11_byteAt 6 = .ok (.getfield 303, 3) := by decide +kernel
theorem dX11_byteAt_9 : decode cX11_byteAt 9 = .ok (.if_icmp .lt 7, 3) := by decide +kernel
theorem dX11_byteAt_12 : decode cX11_byteAt 12 = .ok (.iconst (-1), 1) := by decide +kernel
theorem dX11_byteAt_13 : decode cX11_byteAt 13 = .ok (.goto 9, 3) := by decide +kernel
theorem dX11_byteAt_22 : decode cX11_byteAt 22 = .ok (.ireturn, 1) := by decide +kernel
set_option maxHeartbeats 4000000 in
set_option maxRecDepth 100000 in
theorem c_byteAt (l : Launch) (D : va_G) (ca : Nat → ClassId) (sz : Nat) (h0 : Nat) (j0 : Int32) (t0 : Nat) (l0 : Nat) (s0 : Nat) (y0 : Nat) (c0 : Nat) (b0 : Nat) (e0 : Nat) (n0 : Nat) (w0 : Nat) (i0 : Nat) (g0 : Nat) (a0 : Nat) (k0 : Nat) (z0 : Nat)  : oMet l yX11_byteAt wsX11_byteAt ({ frames := 0, cells := 0, slots := 0, locals := 0 } : Room) [.ref h0, .int j0] D ca sz [(h0, .inr (10, [.ref t0, .ref l0, .ref s0, .ref y0, .ref c0, .ref b0, .ref e0, .ref n0, .ref w0, .ref i0, .ref g0, .ref a0, .ref k0, .ref z0, .int 0]))] (oQi D (fun (r : Int32) (u : Unit) => r = (-1)) (fun (u : Unit) => [(h0, .inr (10, [.ref t0, .ref l0, .ref s0, .ref y0, .ref c0, .ref b0, .ref e0, .ref n0, .ref w0, .ref i0, .ref g0, .ref a0, .ref k0, .ref z0, .int 0]))])) 0 0 := by
  refine oM (cc := cX11_byteAt) (maxL := 2) (ret := (some .int)) (by decide) rfl (Nat.le_of_ble_eq_true rfl) [(0, .ref h0), (1, .int j0)] rfl ?_
  intro p e s m below meth c A H locs ls hx hb hr hml hts hown hlocks hin hK hP hD hA hS hl
  have hown : s.vm.findClass RX11 = some m.cls := hown
  have k1 := hts (.fieldLink RX11 303 "LidCourt" "rollLength" "I") (by decide +kernel)
  have k2 : ∀ w ∈ wsX110, w ∈ wsX11_byteAt := fun _ h => List.mem_cons_of_mem _ (List.mem_append_right _ h)
  refine lv_iload_n hx hb dX11_byteAt_0 rfl (lv_at hl 1 rfl) ?_
  refine lv_if_lt (tgt := 12) hx hb dX11_byteAt_1 (by decide) (fun c_1 => ?_) (fun c_1 => ?_)
  · skip
    refine lv_iconst (v := (-1)) hx hb dX11_byteAt_12 (by decide) ?_
    refine lv_goto (tgt := 22) hx hb dX11_byteAt_13 (by decide) ?_
    exact oE_i hx hb hr rfl hlocks hP hD hS () [0] rfl (by decide) rfl (Nat.le_of_ble_eq_true rfl) (Nat.le_of_ble_eq_true rfl) dX11_byteAt_22
  · skip
    refine lv_iload_n hx hb dX11_byteAt_4 rfl (lv_at hl 1 rfl) ?_
    refine lv_aload_n hx hb dX11_byteAt_5 rfl (lv_at hl 0 rfl) ?_
    refine va_get (D := D) (ci := 10) (v := .int 0) (C := RX11) (T := TX11) (N := 15) hx hb hts k2 hown hK.1 hP 0 rfl rfl 14 (by decide) k1 (fun _ h9 => h9) rfl dX11_byteAt_6 ?_
    refine lv_icmp_lt (tgt := 16) hx hb dX11_byteAt_9 (by decide) (fun c => absurd c (by have a0 := c_1; have z0 : (0 : Int32).toInt = 0 := (by decide); simp only [Int32.lt_iff_toInt_lt, Int32.le_iff_toInt_le, ← Int32.toInt_inj, z0] at a0 ⊢; omega)) (fun _ => ?_)
    refine lv_iconst (v := (-1)) hx hb dX11_byteAt_12 (by decide) ?_
    refine lv_goto (tgt := 22) hx hb dX11_byteAt_13 (by decide) ?_
    exact oE_i hx hb hr rfl hlocks hP hD hS () [0] rfl (by decide) rfl (Nat.le_of_ble_eq_true rfl) (Nat.le_of_ble_eq_true rfl) dX11_byteAt_22
theorem dX11_undo_0 : decode cX11_undo 0 = .ok (.aload_n 0, 1) := by decide +kernel
theorem dX11_undo_1 : decode cX11_undo 1 = .ok (.getfield 73, 3) := by decide +kernel
theorem dX11_undo_4 : decode cX11_undo 4 = .ok (.getfield 220, 3) := by decide +kernel
theorem dX11_undo_7 : decode cX11_undo 7 = .ok (.ifCond .ne 5, 3) := by decide +kernel
theorem dX11_undo_10 : decode cX11_undo 10 = .ok (.iconst (-1), 1) := by decide +kernel
theorem dX11_undo_11 : decode cX11_undo 11 = .ok (.ireturn, 1) := by decide +kernel
set_option maxHeartbeats 4000000 in
set_option maxRecDepth 100000 in
theorem c_undo (l : Launch) (D : va_G) (ca : Nat → ClassId) (sz : Nat) (h0 : Nat) (t0 : Nat) (l0 : Nat) (s0 : Nat) (y0 : Nat) (c0 : Nat) (b0 : Nat) (e0 : Nat) (n0 : Nat) (w0 : Nat) (i0 : Nat) (g0 : Nat) (a0 : Nat) (k0 : Nat) (z0 : Nat) (i_next : Int32) (i_stood : Nat)  : oMet l yX11_undo wsX11_undo ({ frames := 0, cells := 0, slots := 0, locals := 0 } : Room) [.ref h0] D ca sz [(h0, .inr (10, [.ref t0, .ref l0, .ref s0, .ref y0, .ref c0, .ref b0, .ref e0, .ref n0, .ref w0, .ref i0, .ref g0, .ref a0, .ref k0, .ref z0, .int 0])), (i0, .inr (3, [.int 0, .int i_next, .ref i_stood]))] (oQi D (fun (r : Int32) (u : Unit) => r = (-1)) (fun (u : Unit) => [(h0, .inr (10, [.ref t0, .ref l0, .ref s0, .ref y0, .ref c0, .ref b0, .ref e0, .ref n0, .ref w0, .ref i0, .ref g0, .ref a0, .ref k0, .ref z0, .int 0])), (i0, .inr (3, [.int 0, .int i_next, .ref i_stood]))])) 0 0 := by
  refine oM (cc := cX11_undo) (maxL := 1) (ret := (some .int)) (by decide) rfl (Nat.le_of_ble_eq_true rfl) [(0, .ref h0)] rfl ?_
  intro p e s m below meth c A H locs ls hx hb hr hml hts hown hlocks hin hK hP hD hA hS hl
  have hown : s.vm.findClass RX11 = some m.cls := hown
  have k1 := hts (.fieldLink RX11 73 "LidCourt" "history" "LLidCourt$History;") (by decide +kernel)
  have k2 : ∀ w ∈ wsX110, w ∈ wsX11_undo := fun _ h => List.mem_cons_of_mem _ (List.mem_append_left _ (List.mem_append_left _ (List.mem_append_right _ h)))
  have k3 := hts (.fieldLink RX11 220 "LidCourt$History" "kept" "I") (by decide +kernel)
  have k4 : ∀ w ∈ wsX30, w ∈ wsX11_undo := fun _ h => List.mem_cons_of_mem _ (List.mem_append_left _ (List.mem_append_right _ h))
  refine lv_aload_n hx hb dX11_undo_0 rfl (lv_at hl 0 rfl) ?_
  refine va_get (D := D) (ci := 10) (v := .ref i0) (C := RX11) (T := TX11) (N := 15) hx hb hts k2 hown hK.1 hP 0 rfl rfl 9 (by decide) k1 (fun _ h9 => h9) rfl dX11_undo_1 ?_
  refine va_get (D := D) (ci := 3) (v := .int 0) (C := RX3) (T := TX3) (N := 3) hx hb hts k4 hown hK.1 hP 1 rfl rfl 0 (by decide) k3 (fun _ h9 => h9) rfl dX11_undo_4 ?_
  refine lv_if_ne (tgt := 12) hx hb dX11_undo_7 (by decide) (fun c => absurd (by decide) c) (fun _ => ?_)
  refine lv_iconst (v := (-1)) hx hb dX11_undo_10 (by decide) ?_
  exact oE_i hx hb hr rfl hlocks hP hD hS () [0, 1] rfl (by decide) rfl (Nat.le_of_ble_eq_true rfl) (Nat.le_of_ble_eq_true rfl) dX11_undo_11
theorem dX11_heard_0 : decode cX11_heard 0 = .ok (.aload_n 0, 1) := by decide +kernel
theorem dX11_heard_1 : decode cX11_heard 1 = .ok (.getfield 10, 3) := by decide +kernel
theorem dX11_heard_4 : decode cX11_heard 4 = .ok (.getfield 102, 3) := by decide +kernel
theorem dX11_heard_7 : decode cX11_heard 7 = .ok (.iconst 3, 1) := by decide +kernel
theorem dX11_heard_8 : decode cX11_heard 8 = .ok (.if_icmp .ne 23, 3) := by decide +kernel
theorem dX11_heard_31 : decode cX11_heard 31 = .ok (.iconst 0, 1) := by decide +kernel
theorem dX11_heard_32 : decode cX11_heard 32 = .ok (.istore_n 1, 1) := by decide +kernel
theorem dX11_heard_33 : decode cX11_heard 33 = .ok (.aload_n 0, 1) := by decide +kernel
theorem dX11_heard_34 : decode cX11_heard 34 = .ok (.getfield 10, 3) := by decide +kernel
theorem dX11_heard_37 : decode cX11_heard 37 = .ok (.iconst 0, 1) := by decide +kernel
theorem dX11_heard_38 : decode cX11_heard 38 = .ok (.putfield 102, 3) := by decide +kernel
theorem dX11_heard_41 : decode cX11_heard 41 = .ok (.iload_n 1, 1) := by decide +kernel
theorem dX11_heard_42 : decode cX11_heard 42 = .ok (.ifCond .ne 5, 3) := by decide +kernel
theorem dX11_heard_45 : decode cX11_heard 45 = .ok (.iconst (-1), 1) := by decide +kernel
theorem dX11_heard_46 : decode cX11_heard 46 = .ok (.ireturn, 1) := by decide +kernel
set_option maxHeartbeats 4000000 in
set_option maxRecDepth 100000 in
theorem c_heard (l : Launch) (D : va_G) (ca : Nat → ClassId) (sz : Nat) (h0 : Nat) (t0 : Nat) (l0 : Nat) (s0 : Nat) (y0 : Nat) (c0 : Nat) (b0 : Nat) (e0 : Nat) (n0 : Nat) (w0 : Nat) (i0 : Nat) (g0 : Nat) (a0 : Nat) (k0 : Nat) (z0 : Nat) (r_bytes : Nat) (r_faultKind : Int32) (r_faultAt : Int32) (r_letters : Int64) (r_mostBytes : Int32) (r_behind : Int32) (r_at : Int32) (r_kind : Int32) (r_number : Int32)  : oMet l yX11_heard wsX11_heard ({ frames := 0, cells := 0, slots := 0, locals := 0 } : Room) [.ref h0] D ca sz [(h0, .inr (10, [.ref t0, .ref l0, .ref s0, .ref y0, .ref c0, .ref b0, .ref e0, .ref n0, .ref w0, .ref i0, .ref g0, .ref a0, .ref k0, .ref z0, .int 0])), (t0, .inr (6, [.ref r_bytes, .int 0, .int r_faultKind, .int r_faultAt, .long r_letters, .int r_mostBytes, .int r_behind, .int r_at, .int r_kind, .int r_number]))] (oQi D (fun (r : Int32) (u : Unit) => r = (-1)) (fun (u : Unit) => [(h0, .inr (10, [.ref t0, .ref l0, .ref s0, .ref y0, .ref c0, .ref b0, .ref e0, .ref n0, .ref w0, .ref i0, .ref g0, .ref a0, .ref k0, .ref z0, .int 0])), (t0, .inr (6, [.ref r_bytes, .int 0, .int r_faultKind, .int r_faultAt, .long r_letters, .int r_mostBytes, .int r_behind, .int r_at, .int r_kind, .int r_number]))])) 0 0 := by
  refine oM (cc := cX11_heard) (maxL := 3) (ret := (some .int)) (by decide) rfl (Nat.le_of_ble_eq_true rfl) [(0, .ref h0)] rfl ?_
  intro p e s m below meth c A H locs ls hx hb hr hml hts hown hlocks hin hK hP hD hA hS hl
  have hown : s.vm.findClass RX11 = some m.cls := hown
  have k1 := hts (.fieldLink RX11 10 "LidCourt" "tape" "LLidCourt$Reader;") (by decide +kernel)
  have k2 : ∀ w ∈ wsX110, w ∈ wsX11_heard := fun _ h => List.mem_cons_of_mem _ (List.mem_append_left _ (List.mem_append_left _ (List.mem_append_left _ (List.mem_append_left _ (List.mem_append_right _ h)))))
  have k3 := hts (.fieldLink RX11 102 "LidCourt$Reader" "length" "I") (by decide +kernel)
  have k4 : ∀ w ∈ wsX60, w ∈ wsX11_heard := fun _ h => List.mem_cons_of_mem _ (List.mem_append_left _ (List.mem_append_left _ (List.mem_append_left _ (List.mem_append_right _ h))))
  refine lv_aload_n hx hb dX11_heard_0 rfl (lv_at hl 0 rfl) ?_
  refine va_get (D := D) (ci := 10) (v := .ref t0) (C := RX11) (T := TX11) (N := 15) hx hb hts k2 hown hK.1 hP 0 rfl rfl 0 (by decide) k1 (fun _ h9 => h9) rfl dX11_heard_1 ?_
  refine va_get (D := D) (ci := 6) (v := .int 0) (C := RX6) (T := TX6) (N := 10) hx hb hts k4 hown hK.1 hP 1 rfl rfl 1 (by decide) k3 (fun _ h9 => h9) rfl dX11_heard_4 ?_
  refine lv_iconst (v := 3) hx hb dX11_heard_7 (by decide) ?_
  refine lv_icmp_ne (tgt := 31) hx hb dX11_heard_8 (by decide) (fun _ => ?_) (fun c => absurd c (by decide))
  refine lv_iconst (v := 0) hx hb dX11_heard_31 (by decide) ?_
  refine lv_istore_n (lv' := [(1, .int 0), (0, .ref h0)]) hx hb dX11_heard_32 rfl hl (by decide) rfl (fun ls hl => ?_)
  refine lv_aload_n hx hb dX11_heard_33 rfl (lv_at hl 1 rfl) ?_
  refine va_get (D := D) (ci := 10) (v := .ref t0) (C := RX11) (T := TX11) (N := 15) hx hb hts k2 hown hK.1 hP 0 rfl rfl 0 (by decide) k1 (fun _ h9 => h9) rfl dX11_heard_34 ?_
  refine lv_iconst (v := 0) hx hb dX11_heard_37 (by decide) ?_
  refine va_put (D := D) (ci := 6) (v := .int 0) (ty := .int) (C := RX6) (T := TX6) (N := 10) hx hb hts k4 tyX6 tyX6_ok nmX6 hown hK.1 hP hD hS 1 rfl rfl 1 (by decide) k3 (fun _ h9 => h9) rfl (by decide +kernel) rfl rfl (Nat.le_of_ble_eq_true rfl) dX11_heard_38 (fun H locs hP hD hS => ?_)
  have hP : va_P D vwCl [(h0, .inr (10, [.ref t0, .ref l0, .ref s0, .ref y0, .ref c0, .ref b0, .ref e0, .ref n0, .ref w0, .ref i0, .ref g0, .ref a0, .ref k0, .ref z0, .int 0])), (t0, .inr (6, [.ref r_bytes, .int 0, .int r_faultKind, .int r_faultAt, .long r_letters, .int r_mostBytes, .int r_behind, .int r_at, .int r_kind, .int r_number]))] H := hP
  have hD : va_D A [(h0, .inr (10, [.ref t0, .ref l0, .ref s0, .ref y0, .ref c0, .ref b0, .ref e0, .ref n0, .ref w0, .ref i0, .ref g0, .ref a0, .ref k0, .ref z0, .int 0])), (t0, .inr (6, [.ref r_bytes, .int 0, .int r_faultKind, .int r_faultAt, .long r_letters, .int r_mostBytes, .int r_behind, .int r_at, .int r_kind, .int r_number]))] := hD
  refine lv_iload_n hx hb dX11_heard_41 rfl (lv_at hl 0 rfl) ?_
  refine lv_if_ne (tgt := 47) hx hb dX11_heard_42 (by decide) (fun c => absurd (by decide) c) (fun _ => ?_)
  refine lv_iconst (v := (-1)) hx hb dX11_heard_45 (by decide) ?_
  exact oE_i hx hb hr rfl hlocks hP hD hS () [0, 1] rfl (by decide) rfl (Nat.le_of_ble_eq_true rfl) (Nat.le_of_ble_eq_true rfl) dX11_heard_46
theorem dX11_said_0 : decode cX11_said 0 = .ok (.aload_n 0, 1) := by decide +kernel
theorem dX11_said_1 : decode cX11_said 1 = .ok (.getfield 33, 3) := by decide +kernel
theorem dX11_said_4 : decode cX11_said 4 = .ok (.getfield 127, 3) := by decide +kernel
theorem dX11_said_7 : decode cX11_said 7 = .ok (.ifCond .eq 8, 3) := by decide +kernel
theorem dX11_said_15 : decode cX11_said 15 = .ok (.iconst (-1), 1) := by decide +kernel
theorem dX11_said_16 : decode cX11_said 16 = .ok (.ireturn, 1) := by decide +kernel
set_option maxHeartbeats 4000000 in
set_option maxRecDepth 100000 in
theorem c_said (l : Launch) (D : va_G) (ca : Nat → ClassId) (sz : Nat) (h0 : Nat) (j0 : Int32) (t0 : Nat) (l0 : Nat) (s0 : Nat) (y0 : Nat) (c0 : Nat) (b0 : Nat) (e0 : Nat) (n0 : Nat) (w0 : Nat) (i0 : Nat) (g0 : Nat) (a0 : Nat) (k0 : Nat) (z0 : Nat) (y0_steps : Int32) (y0_word : Nat) (y0_first : Nat) (y0_second : Nat) (y0_sets : Nat)  : oMet l yX11_said wsX11_said ({ frames := 0, cells := 0, slots := 0, locals := 0 } : Room) [.ref h0, .int j0] D ca sz [(h0, .inr (10, [.ref t0, .ref l0, .ref s0, .ref y0, .ref c0, .ref b0, .ref e0, .ref n0, .ref w0, .ref i0, .ref g0, .ref a0, .ref k0, .ref z0, .int 0])), (y0, .inr (7, [.int 0, .int y0_steps, .ref y0_word, .ref y0_first, .ref y0_second, .ref y0_sets]))] (oQi D (fun (r : Int32) (u : Unit) => r = (-1)) (fun (u : Unit) => [(h0, .inr (10, [.ref t0, .ref l0, .ref s0, .ref y0, .ref c0, .ref b0, .ref e0, .ref n0, .ref w0, .ref i0, .ref g0, .ref a0, .ref k0, .ref z0, .int 0])), (y0, .inr (7, [.int 0, .int y0_steps, .ref y0_word, .ref y0_first, .ref y0_second, .ref y0_sets]))])) 0 0 := by
  refine oM (cc := cX11_said) (maxL := 5) (ret := (some .int)) (by decide) rfl (Nat.le_of_ble_eq_true rfl) [(0, .ref h0), (1, .int j0)] rfl ?_
  intro p e s m below meth c A H locs ls hx hb hr hml hts hown hlocks hin hK hP hD hA hS hl
  have hown : s.vm.findClass RX11 = some m.cls := hown
  have k1 := hts (.fieldLink RX11 33 "LidCourt" "saying" "LLidCourt$Saying;") (by decide +kernel)
  have k2 : ∀ w ∈ wsX110, w ∈ wsX11_said := fun _ h => List.mem_cons_of_mem _ (List.mem_append_left _ (List.mem_append_left _ (List.mem_append_left _ (List.mem_append_right _ h))))
  have k3 := hts (.fieldLink RX11 127 "LidCourt$Saying" "present" "Z") (by decide +kernel)
  have k4 : ∀ w ∈ wsX70, w ∈ wsX11_said := fun _ h => List.mem_cons_of_mem _ (List.mem_append_left _ (List.mem_append_left _ (List.mem_append_right _ h)))
  refine lv_aload_n hx hb dX11_said_0 rfl (lv_at hl 0 rfl) ?_
  refine va_get (D := D) (ci := 10) (v := .ref y0) (C := RX11) (T := TX11) (N := 15) hx hb hts k2 hown hK.1 hP 0 rfl rfl 3 (by decide) k1 (fun _ h9 => h9) rfl dX11_said_1 ?_
  refine va_get (D := D) (ci := 7) (v := .int 0) (C := RX7) (T := TX7) (N := 6) hx hb hts k4 hown hK.1 hP 1 rfl rfl 0 (by decide) k3 (fun _ h9 => h9) rfl dX11_said_4 ?_
  refine lv_if_eq (tgt := 15) hx hb dX11_said_7 (by decide) (fun _ => ?_) (fun c => absurd (by decide) c)
  refine lv_iconst (v := (-1)) hx hb dX11_said_15 (by decide) ?_
  exact oE_i hx hb hr rfl hlocks hP hD hS () [0, 1] rfl (by decide) rfl (Nat.le_of_ble_eq_true rfl) (Nat.le_of_ble_eq_true rfl) dX11_said_16
