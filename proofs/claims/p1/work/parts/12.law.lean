theorem dX5_empty_0 : decode cX5_empty 0 = .ok (.aload_n 0, 1) := by decide +kernel
theorem dX5_empty_1 : decode cX5_empty 1 = .ok (.iconst 0, 1) := by decide +kernel
theorem dX5_empty_2 : decode cX5_empty 2 = .ok (.putfield 43, 3) := by decide +kernel
theorem dX5_empty_5 : decode cX5_empty 5 = .ok (.aload_n 0, 1) := by decide +kernel
theorem dX5_empty_6 : decode cX5_empty 6 = .ok (.iconst 0, 1) := by decide +kernel
theorem dX5_empty_7 : decode cX5_empty 7 = .ok (.putfield 47, 3) := by decide +kernel
theorem dX5_empty_10 : decode cX5_empty 10 = .ok (.aload_n 0, 1) := by decide +kernel
theorem dX5_empty_11 : decode cX5_empty 11 = .ok (.iconst 0, 1) := by decide +kernel
theorem dX5_empty_12 : decode cX5_empty 12 = .ok (.putfield 50, 3) := by decide +kernel
theorem dX5_empty_15 : decode cX5_empty 15 = .ok (.aload_n 0, 1) := by decide +kernel
theorem dX5_empty_16 : decode cX5_empty 16 = .ok (.iconst 3, 1) := by decide +kernel
theorem dX5_empty_17 : decode cX5_empty 17 = .ok (.putfield 53, 3) := by decide +kernel
theorem dX5_empty_20 : decode cX5_empty 20 = .ok (.aload_n 0, 1) := by decide +kernel
theorem dX5_empty_21 : decode cX5_empty 21 = .ok (.iconst 1, 1) := by decide +kernel
theorem dX5_empty_22 : decode cX5_empty 22 = .ok (.putfield 56, 3) := by decide +kernel
theorem dX5_empty_25 : decode cX5_empty 25 = .ok (.aload_n 0, 1) := by decide +kernel
theorem dX5_empty_26 : decode cX5_empty 26 = .ok (.iconst 0, 1) := by decide +kernel
theorem dX5_empty_27 : decode cX5_empty 27 = .ok (.putfield 59, 3) := by decide +kernel
theorem dX5_empty_30 : decode cX5_empty 30 = .ok (.iconst 0, 1) := by decide +kernel
theorem dX5_empty_31 : decode cX5_empty 31 = .ok (.istore_n 1, 1) := by decide +kernel
theorem dX5_empty_32 : decode cX5_empty 32 = .ok (.iload_n 1, 1) := by decide +kernel
theorem dX5_empty_33 : decode cX5_empty 33 = .ok (.aload_n 0, 1) := by decide +kernel
theorem dX5_empty_34 : decode cX5_empty 34 = .ok (.getfield 40, 3) := by decide +kernel
theorem dX5_empty_37 : decode cX5_empty 37 = .ok (.arraylength, 1) := by decide +kernel
theorem dX5_empty_38 : decode cX5_empty 38 = .ok (.if_icmp .ge 16, 3) := by decide +kernel
theorem dX5_empty_41 : decode cX5_empty 41 = .ok (.aload_n 0, 1) := by decide +kernel
theorem dX5_empty_42 : decode cX5_empty 42 = .ok (.getfield 40, 3) := by decide +kernel
theorem dX5_empty_45 : decode cX5_empty 45 = .ok (.iload_n 1, 1) := by decide +kernel
theorem dX5_empty_46 : decode cX5_empty 46 = .ok (.iconst (-1), 1) := by decide +kernel
theorem dX5_empty_47 : decode cX5_empty 47 = .ok (.iastore, 1) := by decide +kernel
theorem dX5_empty_48 : decode cX5_empty 48 = .ok (.iinc 1 1, 3) := by decide +kernel
theorem dX5_empty_51 : decode cX5_empty 51 = .ok (.goto (-19), 3) := by decide +kernel
theorem dX5_empty_54 : decode cX5_empty 54 = .ok (.return_, 1) := by decide +kernel
set_option maxHeartbeats 4000000 in
set_option maxRecDepth 100000 in
theorem c_empty (l : Launch) (D : va_G) (ca : Nat → ClassId) (sz : Nat) (h0 : Nat) (h0_jurors : Int32) (h0_floors : Int32) (h0_cases : Int32) (h0_one : Int32) (h0_dent : Int32) (h0_seated : Int32) (h0_jurorName : Nat) (h0_floorName : Nat) (h0_caseName : Nat) (h0_pitch : Nat) (h0_length : Nat) (h0_hands : Nat) (h0_tune : Nat) (h0_dull : Nat) (h0_caseFloor : Nat) (h0_tuned : Nat) (f_h0_tuned : Nat → Int32)  : oMet l yX5_empty wsX5_empty ({ frames := 0, cells := 0, slots := 0, locals := 0 } : Room) [.ref h0] D ca sz [(h0, .inr (5, [.int h0_jurors, .int h0_floors, .int h0_cases, .int h0_one, .int h0_dent, .int h0_seated, .ref h0_jurorName, .ref h0_floorName, .ref h0_caseName, .ref h0_pitch, .ref h0_length, .ref h0_hands, .ref h0_tune, .ref h0_dull, .ref h0_caseFloor, .ref h0_tuned])), (aI ca h0_tuned 40 f_h0_tuned)] (oQv D (fun (u : (Nat → Int32)) => True) (fun (u : (Nat → Int32)) => [(h0, .inr (5, [.int 0, .int 0, .int 0, .int 3, .int 1, .int 0, .ref h0_jurorName, .ref h0_floorName, .ref h0_caseName, .ref h0_pitch, .ref h0_length, .ref h0_hands, .ref h0_tune, .ref h0_dull, .ref h0_caseFloor, .ref h0_tuned])), (aI ca h0_tuned 40 u)])) 0 0 := by
  refine oM (cc := cX5_empty) (maxL := 2) (ret := none) (by decide) rfl (Nat.le_of_ble_eq_true rfl) [(0, .ref h0)] rfl ?_
  intro p e s m below meth c A H locs ls hx hb hr hml hts hown hlocks hin hK hP hD hA hS hl
  have hown : s.vm.findClass RX5 = some m.cls := hown
  have k1 := hts (.fieldLink RX5 43 "LidCourt$Law" "jurors" "I") (by decide +kernel)
  have k2 : ∀ w ∈ wsX50, w ∈ wsX5_empty := fun _ h => List.mem_cons_of_mem _ (List.mem_append_right _ h)
  have k3 := hts (.fieldLink RX5 47 "LidCourt$Law" "floors" "I") (by decide +kernel)
  have k4 := hts (.fieldLink RX5 50 "LidCourt$Law" "cases" "I") (by decide +kernel)
  have k5 := hts (.fieldLink RX5 53 "LidCourt$Law" "one" "I") (by decide +kernel)
  have k6 := hts (.fieldLink RX5 56 "LidCourt$Law" "dent" "I") (by decide +kernel)
  have k7 := hts (.fieldLink RX5 59 "LidCourt$Law" "seated" "I") (by decide +kernel)
  have k8 := hts (.fieldLink RX5 40 "LidCourt$Law" "tuned" "[I") (by decide +kernel)
  refine lv_aload_n hx hb dX5_empty_0 rfl (lv_at hl 0 rfl) ?_
  refine lv_iconst (v := 0) hx hb dX5_empty_1 (by decide) ?_
  refine va_put (D := D) (ci := 5) (v := .int 0) (ty := .int) (C := RX5) (T := TX5) (N := 16) hx hb hts k2 tyX5 tyX5_ok nmX5 hown hK.1 hP hD hS 0 rfl rfl 0 (by decide) k1 (fun _ h9 => h9) rfl (by decide +kernel) rfl rfl (Nat.le_of_ble_eq_true rfl) dX5_empty_2 (fun H locs hP hD hS => ?_)
  have hP : va_P D vwCl [(h0, .inr (5, [.int 0, .int h0_floors, .int h0_cases, .int h0_one, .int h0_dent, .int h0_seated, .ref h0_jurorName, .ref h0_floorName, .ref h0_caseName, .ref h0_pitch, .ref h0_length, .ref h0_hands, .ref h0_tune, .ref h0_dull, .ref h0_caseFloor, .ref h0_tuned])), (aI ca h0_tuned 40 f_h0_tuned)] H := hP
  have hD : va_D A [(h0, .inr (5, [.int 0, .int h0_floors, .int h0_cases, .int h0_one, .int h0_dent, .int h0_seated, .ref h0_jurorName, .ref h0_floorName, .ref h0_caseName, .ref h0_pitch, .ref h0_length, .ref h0_hands, .ref h0_tune, .ref h0_dull, .ref h0_caseFloor, .ref h0_tuned])), (aI ca h0_tuned 40 f_h0_tuned)] := hD
  refine lv_aload_n hx hb dX5_empty_5 rfl (lv_at hl 0 rfl) ?_
  refine lv_iconst (v := 0) hx hb dX5_empty_6 (by decide) ?_
  refine va_put (D := D) (ci := 5) (v := .int 0) (ty := .int) (C := RX5) (T := TX5) (N := 16) hx hb hts k2 tyX5 tyX5_ok nmX5 hown hK.1 hP hD hS 0 rfl rfl 1 (by decide) k3 (fun _ h9 => h9) rfl (by decide +kernel) rfl rfl (Nat.le_of_ble_eq_true rfl) dX5_empty_7 (fun H locs hP hD hS => ?_)
  have hP : va_P D vwCl [(h0, .inr (5, [.int 0, .int 0, .int h0_cases, .int h0_one, .int h0_dent, .int h0_seated, .ref h0_jurorName, .ref h0_floorName, .ref h0_caseName, .ref h0_pitch, .ref h0_length, .ref h0_hands, .ref h0_tune, .ref h0_dull, .ref h0_caseFloor, .ref h0_tuned])), (aI ca h0_tuned 40 f_h0_tuned)] H := hP
  have hD : va_D A [(h0, .inr (5, [.int 0, .int 0, .int h0_cases, .int h0_one, .int h0_dent, .int h0_seated, .ref h0_jurorName, .ref h0_floorName, .ref h0_caseName, .ref h0_pitch, .ref h0_length, .ref h0_hands, .ref h0_tune, .ref h0_dull, .ref h0_caseFloor, .ref h0_tuned])), (aI ca h0_tuned 40 f_h0_tuned)] := hD
  refine lv_aload_n hx hb dX5_empty_10 rfl (lv_at hl 0 rfl) ?_
  refine lv_iconst (v := 0) hx hb dX5_empty_11 (by decide) ?_
  refine va_put (D := D) (ci := 5) (v := .int 0) (ty := .int) (C := RX5) (T := TX5) (N := 16) hx hb hts k2 tyX5 tyX5_ok nmX5 hown hK.1 hP hD hS 0 rfl rfl 2 (by decide) k4 (fun _ h9 => h9) rfl (by decide +kernel) rfl rfl (Nat.le_of_ble_eq_true rfl) dX5_empty_12 (fun H locs hP hD hS => ?_)
  have hP : va_P D vwCl [(h0, .inr (5, [.int 0, .int 0, .int 0, .int h0_one, .int h0_dent, .int h0_seated, .ref h0_jurorName, .ref h0_floorName, .ref h0_caseName, .ref h0_pitch, .ref h0_length, .ref h0_hands, .ref h0_tune, .ref h0_dull, .ref h0_caseFloor, .ref h0_tuned])), (aI ca h0_tuned 40 f_h0_tuned)] H := hP
  have hD : va_D A [(h0, .inr (5, [.int 0, .int 0, .int 0, .int h0_one, .int h0_dent, .int h0_seated, .ref h0_jurorName, .ref h0_floorName, .ref h0_caseName, .ref h0_pitch, .ref h0_length, .ref h0_hands, .ref h0_tune, .ref h0_dull, .ref h0_caseFloor, .ref h0_tuned])), (aI ca h0_tuned 40 f_h0_tuned)] := hD
  refine lv_aload_n hx hb dX5_empty_15 rfl (lv_at hl 0 rfl) ?_
  refine lv_iconst (v := 3) hx hb dX5_empty_16 (by decide) ?_
  refine va_put (D := D) (ci := 5) (v := .int 3) (ty := .int) (C := RX5) (T := TX5) (N := 16) hx hb hts k2 tyX5 tyX5_ok nmX5 hown hK.1 hP hD hS 0 rfl rfl 3 (by decide) k5 (fun _ h9 => h9) rfl (by decide +kernel) rfl rfl (Nat.le_of_ble_eq_true rfl) dX5_empty_17 (fun H locs hP hD hS => ?_)
  have hP : va_P D vwCl [(h0, .inr (5, [.int 0, .int 0, .int 0, .int 3, .int h0_dent, .int h0_seated, .ref h0_jurorName, .ref h0_floorName, .ref h0_caseName, .ref h0_pitch, .ref h0_length, .ref h0_hands, .ref h0_tune, .ref h0_dull, .ref h0_caseFloor, .ref h0_tuned])), (aI ca h0_tuned 40 f_h0_tuned)] H := hP
  have hD : va_D A [(h0, .inr (5, [.int 0, .int 0, .int 0, .int 3, .int h0_dent, .int h0_seated, .ref h0_jurorName, .ref h0_floorName, .ref h0_caseName, .ref h0_pitch, .ref h0_length, .ref h0_hands, .ref h0_tune, .ref h0_dull, .ref h0_caseFloor, .ref h0_tuned])), (aI ca h0_tuned 40 f_h0_tuned)] := hD
  refine lv_aload_n hx hb dX5_empty_20 rfl (lv_at hl 0 rfl) ?_
  refine lv_iconst (v := 1) hx hb dX5_empty_21 (by decide) ?_
  refine va_put (D := D) (ci := 5) (v := .int 1) (ty := .int) (C := RX5) (T := TX5) (N := 16) hx hb hts k2 tyX5 tyX5_ok nmX5 hown hK.1 hP hD hS 0 rfl rfl 4 (by decide) k6 (fun _ h9 => h9) rfl (by decide +kernel) rfl rfl (Nat.le_of_ble_eq_true rfl) dX5_empty_22 (fun H locs hP hD hS => ?_)
  have hP : va_P D vwCl [(h0, .inr (5, [.int 0, .int 0, .int 0, .int 3, .int 1, .int h0_seated, .ref h0_jurorName, .ref h0_floorName, .ref h0_caseName, .ref h0_pitch, .ref h0_length, .ref h0_hands, .ref h0_tune, .ref h0_dull, .ref h0_caseFloor, .ref h0_tuned])), (aI ca h0_tuned 40 f_h0_tuned)] H := hP
  have hD : va_D A [(h0, .inr (5, [.int 0, .int 0, .int 0, .int 3, .int 1, .int h0_seated, .ref h0_jurorName, .ref h0_floorName, .ref h0_caseName, .ref h0_pitch, .ref h0_length, .ref h0_hands, .ref h0_tune, .ref h0_dull, .ref h0_caseFloor, .ref h0_tuned])), (aI ca h0_tuned 40 f_h0_tuned)] := hD
  refine lv_aload_n hx hb dX5_empty_25 rfl (lv_at hl 0 rfl) ?_
  refine lv_iconst (v := 0) hx hb dX5_empty_26 (by decide) ?_
  refine va_put (D := D) (ci := 5) (v := .int 0) (ty := .int) (C := RX5) (T := TX5) (N := 16) hx hb hts k2 tyX5 tyX5_ok nmX5 hown hK.1 hP hD hS 0 rfl rfl 5 (by decide) k7 (fun _ h9 => h9) rfl (by decide +kernel) rfl rfl (Nat.le_of_ble_eq_true rfl) dX5_empty_27 (fun H locs hP hD hS => ?_)
  have hP : va_P D vwCl [(h0, .inr (5, [.int 0, .int 0, .int 0, .int 3, .int 1, .int 0, .ref h0_jurorName, .ref h0_floorName, .ref h0_caseName, .ref h0_pitch, .ref h0_length, .ref h0_hands, .ref h0_tune, .ref h0_dull, .ref h0_caseFloor, .ref h0_tuned])), (aI ca h0_tuned 40 f_h0_tuned)] H := hP
  have hD : va_D A [(h0, .inr (5, [.int 0, .int 0, .int 0, .int 3, .int 1, .int 0, .ref h0_jurorName, .ref h0_floorName, .ref h0_caseName, .ref h0_pitch, .ref h0_length, .ref h0_hands, .ref h0_tune, .ref h0_dull, .ref h0_caseFloor, .ref h0_tuned])), (aI ca h0_tuned 40 f_h0_tuned)] := hD
  refine lv_iconst (v := 0) hx hb dX5_empty_30 (by decide) ?_
  refine lv_istore_n (lv' := [(1, .int 0), (0, .ref h0)]) hx hb dX5_empty_31 rfl hl (by decide) rfl (fun ls hl => ?_)
  have LP_3 : ∀ (n i_1 : Nat) (x_2 : Int32) (f_4 : Nat → Int32), i_1 ≤ 40 → 40 < i_1 + n → x_2 = nI i_1 → ∀ (H : Heap) (locs : List Loc) (ls : Array Slot), va_P D vwCl [(h0, .inr (5, [.int 0, .int 0, .int 0, .int 3, .int 1, .int 0, .ref h0_jurorName, .ref h0_floorName, .ref h0_caseName, .ref h0_pitch, .ref h0_length, .ref h0_hands, .ref h0_tune, .ref h0_dull, .ref h0_caseFloor, .ref h0_tuned])), (aI ca h0_tuned 40 f_4)] H → va_D A [(h0, .inr (5, [.int 0, .int 0, .int 0, .int 3, .int 1, .int 0, .ref h0_jurorName, .ref h0_floorName, .ref h0_caseName, .ref h0_pitch, .ref h0_length, .ref h0_hands, .ref h0_tune, .ref h0_dull, .ref h0_caseFloor, .ref h0_tuned])), (aI ca h0_tuned 40 f_4)] → va_S A s.heap H locs → lv_has ls 2 [(0, .ref h0), (1, .int x_2)] → W p l e ({ frames := 0, cells := 0, slots := 0, locals := 0 } : Room) s m ([.ref h0] : List Value).toArray below meth c H locs 0 0 (MQ below ((oQv D (fun (u : (Nat → Int32)) => True) (fun (u : (Nat → Int32)) => [(h0, .inr (5, [.int 0, .int 0, .int 0, .int 3, .int 1, .int 0, .ref h0_jurorName, .ref h0_floorName, .ref h0_caseName, .ref h0_pitch, .ref h0_length, .ref h0_hands, .ref h0_tune, .ref h0_dull, .ref h0_caseFloor, .ref h0_tuned])), (aI ca h0_tuned 40 u)])) A) ([.ref h0] : List Value).toArray s 0 0 A) (F0 m 32 ls []) := by
    intro n
    induction n with
    | zero => intro i_1 x_2 f_4 hi_i_1 hf_i_1; exact absurd hf_i_1 (by omega)
    | succ n ih =>
      intro i_1 x_2 f_4 hi_i_1 hf_i_1 ex_2  H locs ls hP hD hS hl
      refine lv_iload_n hx hb dX5_empty_32 rfl (lv_at hl 1 rfl) ?_
      refine lv_aload_n hx hb dX5_empty_33 rfl (lv_at hl 0 rfl) ?_
      refine va_get (D := D) (ci := 5) (v := .ref h0_tuned) (C := RX5) (T := TX5) (N := 16) hx hb hts k2 hown hK.1 hP 0 rfl rfl 15 (by decide) k8 (fun _ h9 => h9) rfl dX5_empty_34 ?_
      refine va_alen hx hb hK.1 hP 1 0 rfl rfl (v := 40) rfl dX5_empty_37 ?_
      refine lv_icmp_ge (tgt := 54) hx hb dX5_empty_38 (by decide) (fun c_5 => ?_) (fun c_5 => ?_)
      · skip
        have nc_5 : 40 ≤ i_1 := ole rfl ex_2 (by omega) (by omega) c_5
        exact oE_v hx hb hr hlocks hP hD hS f_4 [0, 1] rfl (by decide) trivial (Nat.le_of_ble_eq_true rfl) (Nat.le_of_ble_eq_true rfl) dX5_empty_54
      · skip
        have nc_5 : ¬ (40 ≤ i_1) := oleN rfl ex_2 (by omega) (by omega) c_5
        refine lv_aload_n hx hb dX5_empty_41 rfl (lv_at hl 0 rfl) ?_
        refine va_get (D := D) (ci := 5) (v := .ref h0_tuned) (C := RX5) (T := TX5) (N := 16) hx hb hts k2 hown hK.1 hP 0 rfl rfl 15 (by decide) k8 (fun _ h9 => h9) rfl dX5_empty_42 ?_
        refine lv_iload_n hx hb dX5_empty_45 rfl (lv_at hl 1 rfl) ?_
        refine lv_iconst (v := (-1)) hx hb dX5_empty_46 (by decide) ?_
        refine va_iast hx hb hK.1 hP hD hS 1 0 rfl rfl (oin (k := i_1) (by omega) (by decide) ex_2) dX5_empty_47 (fun H locs hP hD hS => ?_)
        obtain ⟨g_6, eg_6⟩ : ∃ y : Nat → Int32, y = upd f_4 (x_2 : Int32).toNatClampNeg (-1) := ⟨_, rfl⟩
        rw [← eg_6] at hP hD
        have eg_6 : g_6 = upd f_4 i_1 (-1) := eg_6.trans (oze f_4 i_1 (-1) ex_2 (by omega))
        have hP : va_P D vwCl [(h0, .inr (5, [.int 0, .int 0, .int 0, .int 3, .int 1, .int 0, .ref h0_jurorName, .ref h0_floorName, .ref h0_caseName, .ref h0_pitch, .ref h0_length, .ref h0_hands, .ref h0_tune, .ref h0_dull, .ref h0_caseFloor, .ref h0_tuned])), (aI ca h0_tuned 40 g_6)] H := hP
        have hD : va_D A [(h0, .inr (5, [.int 0, .int 0, .int 0, .int 3, .int 1, .int 0, .ref h0_jurorName, .ref h0_floorName, .ref h0_caseName, .ref h0_pitch, .ref h0_length, .ref h0_hands, .ref h0_tune, .ref h0_dull, .ref h0_caseFloor, .ref h0_tuned])), (aI ca h0_tuned 40 g_6)] := hD
        obtain ⟨x_7, ex_7⟩ : ∃ y : Int32, y = x_2 + 1 := ⟨_, rfl⟩
        have nx_7 : x_7 = nI (i_1 + 1) := by rw [ex_7, ex_2]; exact nI_add _ 1
        refine lv_iinc (v := x_7) (lv' := [(1, .int x_7), (0, .ref h0)]) hx hb dX5_empty_48 hl (k := 1) rfl (by rw [ex_7]; rfl) (by decide) rfl (fun ls hl => ?_)
        refine lv_goto (tgt := 32) hx hb dX5_empty_51 (by decide) ?_
        exact ih (i_1 + 1) x_7 g_6 (by omega) (by omega) nx_7  H locs ls (oPsub hP [0, 1] rfl) (hD.sub [0, 1] (by decide) rfl) hS (lv_sub hl [1, 0] rfl)
  exact LP_3 (40 + 1) 0 0 f_h0_tuned (by omega) (by omega) rfl  H locs ls (oPsub hP [0, 1] rfl) (hD.sub [0, 1] (by decide) rfl) hS (lv_sub hl [1, 0] rfl)
theorem dX9_begin_0 : decode cX9_begin 0 = .ok (.aload_n 0, 1) := by decide +kernel
theorem dX9_begin_1 : decode cX9_begin 1 = .ok (.iconst 0, 1) := by decide +kernel
theorem dX9_begin_2 : decode cX9_begin 2 = .ok (.putfield 30, 3) := by decide +kernel
theorem dX9_begin_5 : decode cX9_begin 5 = .ok (.aload_n 0, 1) := by decide +kernel
theorem dX9_begin_6 : decode cX9_begin 6 = .ok (.aload_n 1, 1) := by decide +kernel
theorem dX9_begin_7 : decode cX9_begin 7 = .ok (.getfield 34, 3) := by decide +kernel
theorem dX9_begin_10 : decode cX9_begin 10 = .ok (.putfield 39, 3) := by decide +kernel
theorem dX9_begin_13 : decode cX9_begin 13 = .ok (.aload_n 0, 1) := by decide +kernel
theorem dX9_begin_14 : decode cX9_begin 14 = .ok (.iconst 0, 1) := by decide +kernel
theorem dX9_begin_15 : decode cX9_begin 15 = .ok (.putfield 42, 3) := by decide +kernel
theorem dX9_begin_18 : decode cX9_begin 18 = .ok (.aload_n 0, 1) := by decide +kernel
theorem dX9_begin_19 : decode cX9_begin 19 = .ok (.iconst 0, 1) := by decide +kernel
theorem dX9_begin_20 : decode cX9_begin 20 = .ok (.putfield 45, 3) := by decide +kernel
theorem dX9_begin_23 : decode cX9_begin 23 = .ok (.aload_n 0, 1) := by decide +kernel
theorem dX9_begin_24 : decode cX9_begin 24 = .ok (.iconst 0, 1) := by decide +kernel
theorem dX9_begin_25 : decode cX9_begin 25 = .ok (.putfield 48, 3) := by decide +kernel
theorem dX9_begin_28 : decode cX9_begin 28 = .ok (.iconst 0, 1) := by decide +kernel
theorem dX9_begin_29 : decode cX9_begin 29 = .ok (.istore_n 2, 1) := by decide +kernel
theorem dX9_begin_30 : decode cX9_begin 30 = .ok (.iload_n 2, 1) := by decide +kernel
theorem dX9_begin_31 : decode cX9_begin 31 = .ok (.bipush 10, 2) := by decide +kernel
theorem dX9_begin_33 : decode cX9_begin 33 = .ok (.if_icmp .ge 23, 3) := by decide +kernel
theorem dX9_begin_36 : decode cX9_begin 36 = .ok (.aload_n 0, 1) := by decide +kernel
theorem dX9_begin_37 : decode cX9_begin 37 = .ok (.getfield 9, 3) := by decide +kernel
theorem dX9_begin_40 : decode cX9_begin 40 = .ok (.iload_n 2, 1) := by decide +kernel
theorem dX9_begin_41 : decode cX9_begin 41 = .ok (.iconst 0, 1) := by decide +kernel
theorem dX9_begin_42 : decode cX9_begin 42 = .ok (.iastore, 1) := by decide +kernel
theorem dX9_begin_43 : decode cX9_begin 43 = .ok (.aload_n 0, 1) := by decide +kernel
theorem dX9_begin_44 : decode cX9_begin 44 = .ok (.getfield 15, 3) := by decide +kernel
theorem dX9_begin_47 : decode cX9_begin 47 = .ok (.iload_n 2, 1) := by decide +kernel
theorem dX9_begin_48 : decode cX9_begin 48 = .ok (.iconst 0, 1) := by decide +kernel
theorem dX9_begin_49 : decode cX9_begin 49 = .ok (.iastore, 1) := by decide +kernel
theorem dX9_begin_50 : decode cX9_begin 50 = .ok (.iinc 2 1, 3) := by decide +kernel
theorem dX9_begin_53 : decode cX9_begin 53 = .ok (.goto (-23), 3) := by decide +kernel
theorem dX9_begin_56 : decode cX9_begin 56 = .ok (.iconst 0, 1) := by decide +kernel
theorem dX9_begin_57 : decode cX9_begin 57 = .ok (.istore_n 2, 1) := by decide +kernel
theorem dX9_begin_58 : decode cX9_begin 58 = .ok (.iload_n 2, 1) := by decide +kernel
theorem dX9_begin_59 : decode cX9_begin 59 = .ok (.iconst 5, 1) := by decide +kernel
theorem dX9_begin_60 : decode cX9_begin 60 = .ok (.if_icmp .ge 37, 3) := by decide +kernel
theorem dX9_begin_63 : decode cX9_begin 63 = .ok (.aload_n 0, 1) := by decide +kernel
theorem dX9_begin_64 : decode cX9_begin 64 = .ok (.getfield 18, 3) := by decide +kernel
theorem dX9_begin_67 : decode cX9_begin 67 = .ok (.iload_n 2, 1) := by decide +kernel
theorem dX9_begin_68 : decode cX9_begin 68 = .ok (.iconst 0, 1) := by decide +kernel
theorem dX9_begin_69 : decode cX9_begin 69 = .ok (.iastore, 1) := by decide +kernel
theorem dX9_begin_70 : decode cX9_begin 70 = .ok (.aload_n 0, 1) := by decide +kernel
theorem dX9_begin_71 : decode cX9_begin 71 = .ok (.getfield 21, 3) := by decide +kernel
theorem dX9_begin_74 : decode cX9_begin 74 = .ok (.iload_n 2, 1) := by decide +kernel
theorem dX9_begin_75 : decode cX9_begin 75 = .ok (.iconst (-1), 1) := by decide +kernel
theorem dX9_begin_76 : decode cX9_begin 76 = .ok (.iastore, 1) := by decide +kernel
theorem dX9_begin_77 : decode cX9_begin 77 = .ok (.aload_n 0, 1) := by decide +kernel
theorem dX9_begin_78 : decode cX9_begin 78 = .ok (.getfield 24, 3) := by decide +kernel
theorem dX9_begin_81 : decode cX9_begin 81 = .ok (.iload_n 2, 1) := by decide +kernel
theorem dX9_begin_82 : decode cX9_begin 82 = .ok (.iconst 0, 1) := by decide +kernel
theorem dX9_begin_83 : decode cX9_begin 83 = .ok (.iastore, 1) := by decide +kernel
theorem dX9_begin_84 : decode cX9_begin 84 = .ok (.aload_n 0, 1) := by decide +kernel
theorem dX9_begin_85 : decode cX9_begin 85 = .ok (.getfield 27, 3) := by decide +kernel
theorem dX9_begin_88 : decode cX9_begin 88 = .ok (.iload_n 2, 1) := by decide +kernel
theorem dX9_begin_89 : decode cX9_begin 89 = .ok (.iconst 0, 1) := by decide +kernel
theorem dX9_begin_90 : decode cX9_begin 90 = .ok (.iastore, 1) := by decide +kernel
theorem dX9_begin_91 : decode cX9_begin 91 = .ok (.iinc 2 1, 3) := by decide +kernel
theorem dX9_begin_94 : decode cX9_begin 94 = .ok (.goto (-36), 3) := by decide +kernel
theorem dX9_begin_97 : decode cX9_begin 97 = .ok (.return_, 1) := by decide +kernel
set_option maxHeartbeats 4000000 in
set_option maxRecDepth 100000 in
theorem c_X9_begin (l : Launch) (D : va_G) (ca : Nat → ClassId) (sz : Nat) (h0 : Nat) (lw : Nat) (h0_day : Int32) (h0_sits : Int32) (h0_holds : Int32) (h0_trials : Int32) (h0_triedToday : Int32) (h0_dents : Nat) (h0_drops : Nat) (h0_how : Nat) (h0_triedOn : Nat) (h0_dropped : Nat) (h0_heldOn : Nat) (f_h0_dents : Nat → Int32) (f_h0_drops : Nat → Int32) (f_h0_how : Nat → Int32) (f_h0_triedOn : Nat → Int32) (f_h0_dropped : Nat → Int32) (f_h0_heldOn : Nat → Int32) (lw_jurors : Int32) (lw_floors : Int32) (lw_cases : Int32) (lw_one : Int32) (lw_dent : Int32) (lw_jurorName : Nat) (lw_floorName : Nat) (lw_caseName : Nat) (lw_pitch : Nat) (lw_length : Nat) (lw_hands : Nat) (lw_tune : Nat) (lw_dull : Nat) (lw_caseFloor : Nat) (lw_tuned : Nat)  : oMet l yX9_begin wsX9_begin ({ frames := 0, cells := 0, slots := 0, locals := 0 } : Room) [.ref h0, .ref lw] D ca sz [(h0, .inr (9, [.int h0_day, .int h0_sits, .int h0_holds, .int h0_trials, .int h0_triedToday, .ref h0_dents, .ref h0_drops, .ref h0_how, .ref h0_triedOn, .ref h0_dropped, .ref h0_heldOn])), (aI ca h0_dents 10 f_h0_dents), (aI ca h0_drops 10 f_h0_drops), (aI ca h0_how 5 f_h0_how), (aI ca h0_triedOn 5 f_h0_triedOn), (aI ca h0_dropped 5 f_h0_dropped), (aI ca h0_heldOn 5 f_h0_heldOn), (lw, .inr (5, [.int lw_jurors, .int lw_floors, .int lw_cases, .int lw_one, .int lw_dent, .int 0, .ref lw_jurorName, .ref lw_floorName, .ref lw_caseName, .ref lw_pitch, .ref lw_length, .ref lw_hands, .ref lw_tune, .ref lw_dull, .ref lw_caseFloor, .ref lw_tuned]))] (oQv D (fun (u : (Nat → Int32) × (Nat → Int32) × (Nat → Int32) × (Nat → Int32) × (Nat → Int32) × (Nat → Int32)) => (∀ j, 0 ≤ j → j < 10 → u.1 j = 0) ∧ ∀ j, 0 ≤ j → j < 5 → u.2.2.1 j = 0) (fun (u : (Nat → Int32) × (Nat → Int32) × (Nat → Int32) × (Nat → Int32) × (Nat → Int32) × (Nat → Int32)) => [(h0, .inr (9, [.int 0, .int 0, .int 0, .int 0, .int 0, .ref h0_dents, .ref h0_drops, .ref h0_how, .ref h0_triedOn, .ref h0_dropped, .ref h0_heldOn])), (aI ca h0_dents 10 u.1), (aI ca h0_drops 10 u.2.1), (aI ca h0_how 5 u.2.2.1), (aI ca h0_triedOn 5 u.2.2.2.1), (aI ca h0_dropped 5 u.2.2.2.2.1), (aI ca h0_heldOn 5 u.2.2.2.2.2), (lw, .inr (5, [.int lw_jurors, .int lw_floors, .int lw_cases, .int lw_one, .int lw_dent, .int 0, .ref lw_jurorName, .ref lw_floorName, .ref lw_caseName, .ref lw_pitch, .ref lw_length, .ref lw_hands, .ref lw_tune, .ref lw_dull, .ref lw_caseFloor, .ref lw_tuned]))])) 0 0 := by
  refine oM (cc := cX9_begin) (maxL := 3) (ret := none) (by decide) rfl (Nat.le_of_ble_eq_true rfl) [(0, .ref h0), (1, .ref lw)] rfl ?_
  intro p e s m below meth c A H locs ls hx hb hr hml hts hown hlocks hin hK hP hD hA hS hl
  have hown : s.vm.findClass RX9 = some m.cls := hown
  have k1 := hts (.fieldLink RX9 30 "LidCourt$Standing" "day" "I") (by decide +kernel)
  have k2 : ∀ w ∈ wsX90, w ∈ wsX9_begin := fun _ h => List.mem_cons_of_mem _ (List.mem_append_left _ (List.mem_append_right _ h))
  have k3 := hts (.fieldLink RX9 34 "LidCourt$Law" "seated" "I") (by decide +kernel)
  have k4 : ∀ w ∈ wsX50, w ∈ wsX9_begin := fun _ h => List.mem_cons_of_mem _ (List.mem_append_right _ h)
  have k5 := hts (.fieldLink RX9 39 "LidCourt$Standing" "sits" "I") (by decide +kernel)
  have k6 := hts (.fieldLink RX9 42 "LidCourt$Standing" "holds" "I") (by decide +kernel)
  have k7 := hts (.fieldLink RX9 45 "LidCourt$Standing" "trials" "I") (by decide +kernel)
  have k8 := hts (.fieldLink RX9 48 "LidCourt$Standing" "triedToday" "Z") (by decide +kernel)
  have k9 := hts (.fieldLink RX9 18 "LidCourt$Standing" "how" "[I") (by decide +kernel)
  have k10 := hts (.fieldLink RX9 21 "LidCourt$Standing" "triedOn" "[I") (by decide +kernel)
  have k11 := hts (.fieldLink RX9 24 "LidCourt$Standing" "dropped" "[I") (by decide +kernel)
  have k12 := hts (.fieldLink RX9 27 "LidCourt$Standing" "heldOn" "[I") (by decide +kernel)
  have k13 := hts (.fieldLink RX9 9 "LidCourt$Standing" "dents" "[I") (by decide +kernel)
  have k14 := hts (.fieldLink RX9 15 "LidCourt$Standing" "drops" "[I") (by decide +kernel)
  refine lv_aload_n hx hb dX9_begin_0 rfl (lv_at hl 0 rfl) ?_
  refine lv_iconst (v := 0) hx hb dX9_begin_1 (by decide) ?_
  refine va_put (D := D) (ci := 9) (v := .int 0) (ty := .int) (C := RX9) (T := TX9) (N := 11) hx hb hts k2 tyX9 tyX9_ok nmX9 hown hK.1 hP hD hS 0 rfl rfl 0 (by decide) k1 (fun _ h9 => h9) rfl (by decide +kernel) rfl rfl (Nat.le_of_ble_eq_true rfl) dX9_begin_2 (fun H locs hP hD hS => ?_)
  have hP : va_P D vwCl [(h0, .inr (9, [.int 0, .int h0_sits, .int h0_holds, .int h0_trials, .int h0_triedToday, .ref h0_dents, .ref h0_drops, .ref h0_how, .ref h0_triedOn, .ref h0_dropped, .ref h0_heldOn])), (aI ca h0_dents 10 f_h0_dents), (aI ca h0_drops 10 f_h0_drops), (aI ca h0_how 5 f_h0_how), (aI ca h0_triedOn 5 f_h0_triedOn), (aI ca h0_dropped 5 f_h0_dropped), (aI ca h0_heldOn 5 f_h0_heldOn), (lw, .inr (5, [.int lw_jurors, .int lw_floors, .int lw_cases, .int lw_one, .int lw_dent, .int 0, .ref lw_jurorName, .ref lw_floorName, .ref lw_caseName, .ref lw_pitch, .ref lw_length, .ref lw_hands, .ref lw_tune, .ref lw_dull, .ref lw_caseFloor, .ref lw_tuned]))] H := hP
  have hD : va_D A [(h0, .inr (9, [.int 0, .int h0_sits, .int h0_holds, .int h0_trials, .int h0_triedToday, .ref h0_dents, .ref h0_drops, .ref h0_how, .ref h0_triedOn, .ref h0_dropped, .ref h0_heldOn])), (aI ca h0_dents 10 f_h0_dents), (aI ca h0_drops 10 f_h0_drops), (aI ca h0_how 5 f_h0_how), (aI ca h0_triedOn 5 f_h0_triedOn), (aI ca h0_dropped 5 f_h0_dropped), (aI ca h0_heldOn 5 f_h0_heldOn), (lw, .inr (5, [.int lw_jurors, .int lw_floors, .int lw_cases, .int lw_one, .int lw_dent, .int 0, .ref lw_jurorName, .ref lw_floorName, .ref lw_caseName, .ref lw_pitch, .ref lw_length, .ref lw_hands, .ref lw_tune, .ref lw_dull, .ref lw_caseFloor, .ref lw_tuned]))] := hD
  refine lv_aload_n hx hb dX9_begin_5 rfl (lv_at hl 0 rfl) ?_
  refine lv_aload_n hx hb dX9_begin_6 rfl (lv_at hl 1 rfl) ?_
  refine va_get (D := D) (ci := 5) (v := .int 0) (C := RX5) (T := TX5) (N := 16) hx hb hts k4 hown hK.1 hP 7 rfl rfl 5 (by decide) k3 (fun _ h9 => h9) rfl dX9_begin_7 ?_
  refine va_put (D := D) (ci := 9) (v := .int 0) (ty := .int) (C := RX9) (T := TX9) (N := 11) hx hb hts k2 tyX9 tyX9_ok nmX9 hown hK.1 hP hD hS 0 rfl rfl 1 (by decide) k5 (fun _ h9 => h9) rfl (by decide +kernel) rfl rfl (Nat.le_of_ble_eq_true rfl) dX9_begin_10 (fun H locs hP hD hS => ?_)
  have hP : va_P D vwCl [(h0, .inr (9, [.int 0, .int 0, .int h0_holds, .int h0_trials, .int h0_triedToday, .ref h0_dents, .ref h0_drops, .ref h0_how, .ref h0_triedOn, .ref h0_dropped, .ref h0_heldOn])), (aI ca h0_dents 10 f_h0_dents), (aI ca h0_drops 10 f_h0_drops), (aI ca h0_how 5 f_h0_how), (aI ca h0_triedOn 5 f_h0_triedOn), (aI ca h0_dropped 5 f_h0_dropped), (aI ca h0_heldOn 5 f_h0_heldOn), (lw, .inr (5, [.int lw_jurors, .int lw_floors, .int lw_cases, .int lw_one, .int lw_dent, .int 0, .ref lw_jurorName, .ref lw_floorName, .ref lw_caseName, .ref lw_pitch, .ref lw_length, .ref lw_hands, .ref lw_tune, .ref lw_dull, .ref lw_caseFloor, .ref lw_tuned]))] H := hP
  have hD : va_D A [(h0, .inr (9, [.int 0, .int 0, .int h0_holds, .int h0_trials, .int h0_triedToday, .ref h0_dents, .ref h0_drops, .ref h0_how, .ref h0_triedOn, .ref h0_dropped, .ref h0_heldOn])), (aI ca h0_dents 10 f_h0_dents), (aI ca h0_drops 10 f_h0_drops), (aI ca h0_how 5 f_h0_how), (aI ca h0_triedOn 5 f_h0_triedOn), (aI ca h0_dropped 5 f_h0_dropped), (aI ca h0_heldOn 5 f_h0_heldOn), (lw, .inr (5, [.int lw_jurors, .int lw_floors, .int lw_cases, .int lw_one, .int lw_dent, .int 0, .ref lw_jurorName, .ref lw_floorName, .ref lw_caseName, .ref lw_pitch, .ref lw_length, .ref lw_hands, .ref lw_tune, .ref lw_dull, .ref lw_caseFloor, .ref lw_tuned]))] := hD
  refine lv_aload_n hx hb dX9_begin_13 rfl (lv_at hl 0 rfl) ?_
  refine lv_iconst (v := 0) hx hb dX9_begin_14 (by decide) ?_
  refine va_put (D := D) (ci := 9) (v := .int 0) (ty := .int) (C := RX9) (T := TX9) (N := 11) hx hb hts k2 tyX9 tyX9_ok nmX9 hown hK.1 hP hD hS 0 rfl rfl 2 (by decide) k6 (fun _ h9 => h9) rfl (by decide +kernel) rfl rfl (Nat.le_of_ble_eq_true rfl) dX9_begin_15 (fun H locs hP hD hS => ?_)
  have hP : va_P D vwCl [(h0, .inr (9, [.int 0, .int 0, .int 0, .int h0_trials, .int h0_triedToday, .ref h0_dents, .ref h0_drops, .ref h0_how, .ref h0_triedOn, .ref h0_dropped, .ref h0_heldOn])), (aI ca h0_dents 10 f_h0_dents), (aI ca h0_drops 10 f_h0_drops), (aI ca h0_how 5 f_h0_how), (aI ca h0_triedOn 5 f_h0_triedOn), (aI ca h0_dropped 5 f_h0_dropped), (aI ca h0_heldOn 5 f_h0_heldOn), (lw, .inr (5, [.int lw_jurors, .int lw_floors, .int lw_cases, .int lw_one, .int lw_dent, .int 0, .ref lw_jurorName, .ref lw_floorName, .ref lw_caseName, .ref lw_pitch, .ref lw_length, .ref lw_hands, .ref lw_tune, .ref lw_dull, .ref lw_caseFloor, .ref lw_tuned]))] H := hP
  have hD : va_D A [(h0, .inr (9, [.int 0, .int 0, .int 0, .int h0_trials, .int h0_triedToday, .ref h0_dents, .ref h0_drops, .ref h0_how, .ref h0_triedOn, .ref h0_dropped, .ref h0_heldOn])), (aI ca h0_dents 10 f_h0_dents), (aI ca h0_drops 10 f_h0_drops), (aI ca h0_how 5 f_h0_how), (aI ca h0_triedOn 5 f_h0_triedOn), (aI ca h0_dropped 5 f_h0_dropped), (aI ca h0_heldOn 5 f_h0_heldOn), (lw, .inr (5, [.int lw_jurors, .int lw_floors, .int lw_cases, .int lw_one, .int lw_dent, .int 0, .ref lw_jurorName, .ref lw_floorName, .ref lw_caseName, .ref lw_pitch, .ref lw_length, .ref lw_hands, .ref lw_tune, .ref lw_dull, .ref lw_caseFloor, .ref lw_tuned]))] := hD
  refine lv_aload_n hx hb dX9_begin_18 rfl (lv_at hl 0 rfl) ?_
  refine lv_iconst (v := 0) hx hb dX9_begin_19 (by decide) ?_
  refine va_put (D := D) (ci := 9) (v := .int 0) (ty := .int) (C := RX9) (T := TX9) (N := 11) hx hb hts k2 tyX9 tyX9_ok nmX9 hown hK.1 hP hD hS 0 rfl rfl 3 (by decide) k7 (fun _ h9 => h9) rfl (by decide +kernel) rfl rfl (Nat.le_of_ble_eq_true rfl) dX9_begin_20 (fun H locs hP hD hS => ?_)
  have hP : va_P D vwCl [(h0, .inr (9, [.int 0, .int 0, .int 0, .int 0, .int h0_triedToday, .ref h0_dents, .ref h0_drops, .ref h0_how, .ref h0_triedOn, .ref h0_dropped, .ref h0_heldOn])), (aI ca h0_dents 10 f_h0_dents), (aI ca h0_drops 10 f_h0_drops), (aI ca h0_how 5 f_h0_how), (aI ca h0_triedOn 5 f_h0_triedOn), (aI ca h0_dropped 5 f_h0_dropped), (aI ca h0_heldOn 5 f_h0_heldOn), (lw, .inr (5, [.int lw_jurors, .int lw_floors, .int lw_cases, .int lw_one, .int lw_dent, .int 0, .ref lw_jurorName, .ref lw_floorName, .ref lw_caseName, .ref lw_pitch, .ref lw_length, .ref lw_hands, .ref lw_tune, .ref lw_dull, .ref lw_caseFloor, .ref lw_tuned]))] H := hP
  have hD : va_D A [(h0, .inr (9, [.int 0, .int 0, .int 0, .int 0, .int h0_triedToday, .ref h0_dents, .ref h0_drops, .ref h0_how, .ref h0_triedOn, .ref h0_dropped, .ref h0_heldOn])), (aI ca h0_dents 10 f_h0_dents), (aI ca h0_drops 10 f_h0_drops), (aI ca h0_how 5 f_h0_how), (aI ca h0_triedOn 5 f_h0_triedOn), (aI ca h0_dropped 5 f_h0_dropped), (aI ca h0_heldOn 5 f_h0_heldOn), (lw, .inr (5, [.int lw_jurors, .int lw_floors, .int lw_cases, .int lw_one, .int lw_dent, .int 0, .ref lw_jurorName, .ref lw_floorName, .ref lw_caseName, .ref lw_pitch, .ref lw_length, .ref lw_hands, .ref lw_tune, .ref lw_dull, .ref lw_caseFloor, .ref lw_tuned]))] := hD
  refine lv_aload_n hx hb dX9_begin_23 rfl (lv_at hl 0 rfl) ?_
  refine lv_iconst (v := 0) hx hb dX9_begin_24 (by decide) ?_
  refine va_put (D := D) (ci := 9) (v := .int 0) (ty := .boolean) (C := RX9) (T := TX9) (N := 11) hx hb hts k2 tyX9 tyX9_ok nmX9 hown hK.1 hP hD hS 0 rfl rfl 4 (by decide) k8 (fun _ h9 => h9) rfl (by decide +kernel) (by decide) rfl (Nat.le_of_ble_eq_true rfl) dX9_begin_25 (fun H locs hP hD hS => ?_)
  have hP : va_P D vwCl [(h0, .inr (9, [.int 0, .int 0, .int 0, .int 0, .int 0, .ref h0_dents, .ref h0_drops, .ref h0_how, .ref h0_triedOn, .ref h0_dropped, .ref h0_heldOn])), (aI ca h0_dents 10 f_h0_dents), (aI ca h0_drops 10 f_h0_drops), (aI ca h0_how 5 f_h0_how), (aI ca h0_triedOn 5 f_h0_triedOn), (aI ca h0_dropped 5 f_h0_dropped), (aI ca h0_heldOn 5 f_h0_heldOn), (lw, .inr (5, [.int lw_jurors, .int lw_floors, .int lw_cases, .int lw_one, .int lw_dent, .int 0, .ref lw_jurorName, .ref lw_floorName, .ref lw_caseName, .ref lw_pitch, .ref lw_length, .ref lw_hands, .ref lw_tune, .ref lw_dull, .ref lw_caseFloor, .ref lw_tuned]))] H := hP
  have hD : va_D A [(h0, .inr (9, [.int 0, .int 0, .int 0, .int 0, .int 0, .ref h0_dents, .ref h0_drops, .ref h0_how, .ref h0_triedOn, .ref h0_dropped, .ref h0_heldOn])), (aI ca h0_dents 10 f_h0_dents), (aI ca h0_drops 10 f_h0_drops), (aI ca h0_how 5 f_h0_how), (aI ca h0_triedOn 5 f_h0_triedOn), (aI ca h0_dropped 5 f_h0_dropped), (aI ca h0_heldOn 5 f_h0_heldOn), (lw, .inr (5, [.int lw_jurors, .int lw_floors, .int lw_cases, .int lw_one, .int lw_dent, .int 0, .ref lw_jurorName, .ref lw_floorName, .ref lw_caseName, .ref lw_pitch, .ref lw_length, .ref lw_hands, .ref lw_tune, .ref lw_dull, .ref lw_caseFloor, .ref lw_tuned]))] := hD
  refine lv_iconst (v := 0) hx hb dX9_begin_28 (by decide) ?_
  refine lv_istore_n (lv' := [(2, .int 0), (0, .ref h0), (1, .ref lw)]) hx hb dX9_begin_29 rfl hl (by decide) rfl (fun ls hl => ?_)
  have LP_3 : ∀ (n i_1 : Nat) (x_2 : Int32) (f_4 : Nat → Int32) (f_6 : Nat → Int32), i_1 ≤ 10 → 10 < i_1 + n → x_2 = nI i_1 → (∀ j, 0 ≤ j → j < i_1 → f_4 j = 0) → ∀ (H : Heap) (locs : List Loc) (ls : Array Slot), va_P D vwCl [(h0, .inr (9, [.int 0, .int 0, .int 0, .int 0, .int 0, .ref h0_dents, .ref h0_drops, .ref h0_how, .ref h0_triedOn, .ref h0_dropped, .ref h0_heldOn])), (aI ca h0_dents 10 f_4), (aI ca h0_drops 10 f_6), (aI ca h0_how 5 f_h0_how), (aI ca h0_triedOn 5 f_h0_triedOn), (aI ca h0_dropped 5 f_h0_dropped), (aI ca h0_heldOn 5 f_h0_heldOn), (lw, .inr (5, [.int lw_jurors, .int lw_floors, .int lw_cases, .int lw_one, .int lw_dent, .int 0, .ref lw_jurorName, .ref lw_floorName, .ref lw_caseName, .ref lw_pitch, .ref lw_length, .ref lw_hands, .ref lw_tune, .ref lw_dull, .ref lw_caseFloor, .ref lw_tuned]))] H → va_D A [(h0, .inr (9, [.int 0, .int 0, .int 0, .int 0, .int 0, .ref h0_dents, .ref h0_drops, .ref h0_how, .ref h0_triedOn, .ref h0_dropped, .ref h0_heldOn])), (aI ca h0_dents 10 f_4), (aI ca h0_drops 10 f_6), (aI ca h0_how 5 f_h0_how), (aI ca h0_triedOn 5 f_h0_triedOn), (aI ca h0_dropped 5 f_h0_dropped), (aI ca h0_heldOn 5 f_h0_heldOn), (lw, .inr (5, [.int lw_jurors, .int lw_floors, .int lw_cases, .int lw_one, .int lw_dent, .int 0, .ref lw_jurorName, .ref lw_floorName, .ref lw_caseName, .ref lw_pitch, .ref lw_length, .ref lw_hands, .ref lw_tune, .ref lw_dull, .ref lw_caseFloor, .ref lw_tuned]))] → va_S A s.heap H locs → lv_has ls 3 [(0, .ref h0), (1, .ref lw), (2, .int x_2)] → W p l e ({ frames := 0, cells := 0, slots := 0, locals := 0 } : Room) s m ([.ref h0, .ref lw] : List Value).toArray below meth c H locs 0 0 (MQ below ((oQv D (fun (u : (Nat → Int32) × (Nat → Int32) × (Nat → Int32) × (Nat → Int32) × (Nat → Int32) × (Nat → Int32)) => (∀ j, 0 ≤ j → j < 10 → u.1 j = 0) ∧ ∀ j, 0 ≤ j → j < 5 → u.2.2.1 j = 0) (fun (u : (Nat → Int32) × (Nat → Int32) × (Nat → Int32) × (Nat → Int32) × (Nat → Int32) × (Nat → Int32)) => [(h0, .inr (9, [.int 0, .int 0, .int 0, .int 0, .int 0, .ref h0_dents, .ref h0_drops, .ref h0_how, .ref h0_triedOn, .ref h0_dropped, .ref h0_heldOn])), (aI ca h0_dents 10 u.1), (aI ca h0_drops 10 u.2.1), (aI ca h0_how 5 u.2.2.1), (aI ca h0_triedOn 5 u.2.2.2.1), (aI ca h0_dropped 5 u.2.2.2.2.1), (aI ca h0_heldOn 5 u.2.2.2.2.2), (lw, .inr (5, [.int lw_jurors, .int lw_floors, .int lw_cases, .int lw_one, .int lw_dent, .int 0, .ref lw_jurorName, .ref lw_floorName, .ref lw_caseName, .ref lw_pitch, .ref lw_length, .ref lw_hands, .ref lw_tune, .ref lw_dull, .ref lw_caseFloor, .ref lw_tuned]))])) A) ([.ref h0, .ref lw] : List Value).toArray s 0 0 A) (F0 m 30 ls []) := by
    intro n
    induction n with
    | zero => intro i_1 x_2 f_4 f_6 hi_i_1 hf_i_1; exact absurd hf_i_1 (by omega)
    | succ n ih =>
      intro i_1 x_2 f_4 f_6 hi_i_1 hf_i_1 ex_2 h_5 H locs ls hP hD hS hl
      refine lv_iload_n hx hb dX9_begin_30 rfl (lv_at hl 2 rfl) ?_
      refine lv_bipush (v := 10) hx hb dX9_begin_31 (by decide) ?_
      refine lv_icmp_ge (tgt := 56) hx hb dX9_begin_33 (by decide) (fun c_7 => ?_) (fun c_7 => ?_)
      · skip
        have nc_7 : 10 ≤ i_1 := ole rfl ex_2 (by omega) (by omega) c_7
        have h_8 : ∀ j, 0 ≤ j → j < 10 → f_4 j = 0 := fun j h1 h2 => h_5 j h1 (by omega)
        refine lv_iconst (v := 0) hx hb dX9_begin_56 (by decide) ?_
        refine lv_istore_n (lv' := [(2, .int 0), (0, .ref h0), (1, .ref lw)]) hx hb dX9_begin_57 rfl hl (by decide) rfl (fun ls hl => ?_)
        have LP_11 : ∀ (n i_9 : Nat) (x_10 : Int32) (f_12 : Nat → Int32) (f_14 : Nat → Int32) (f_15 : Nat → Int32) (f_16 : Nat → Int32), i_9 ≤ 5 → 5 < i_9 + n → x_10 = nI i_9 → (∀ j, 0 ≤ j → j < i_9 → f_12 j = 0) → ∀ (H : Heap) (locs : List Loc) (ls : Array Slot), va_P D vwCl [(h0, .inr (9, [.int 0, .int 0, .int 0, .int 0, .int 0, .ref h0_dents, .ref h0_drops, .ref h0_how, .ref h0_triedOn, .ref h0_dropped, .ref h0_heldOn])), (aI ca h0_dents 10 f_4), (aI ca h0_drops 10 f_6), (aI ca h0_how 5 f_12), (aI ca h0_triedOn 5 f_14), (aI ca h0_dropped 5 f_15), (aI ca h0_heldOn 5 f_16), (lw, .inr (5, [.int lw_jurors, .int lw_floors, .int lw_cases, .int lw_one, .int lw_dent, .int 0, .ref lw_jurorName, .ref lw_floorName, .ref lw_caseName, .ref lw_pitch, .ref lw_length, .ref lw_hands, .ref lw_tune, .ref lw_dull, .ref lw_caseFloor, .ref lw_tuned]))] H → va_D A [(h0, .inr (9, [.int 0, .int 0, .int 0, .int 0, .int 0, .ref h0_dents, .ref h0_drops, .ref h0_how, .ref h0_triedOn, .ref h0_dropped, .ref h0_heldOn])), (aI ca h0_dents 10 f_4), (aI ca h0_drops 10 f_6), (aI ca h0_how 5 f_12), (aI ca h0_triedOn 5 f_14), (aI ca h0_dropped 5 f_15), (aI ca h0_heldOn 5 f_16), (lw, .inr (5, [.int lw_jurors, .int lw_floors, .int lw_cases, .int lw_one, .int lw_dent, .int 0, .ref lw_jurorName, .ref lw_floorName, .ref lw_caseName, .ref lw_pitch, .ref lw_length, .ref lw_hands, .ref lw_tune, .ref lw_dull, .ref lw_caseFloor, .ref lw_tuned]))] → va_S A s.heap H locs → lv_has ls 3 [(0, .ref h0), (1, .ref lw), (2, .int x_10)] → W p l e ({ frames := 0, cells := 0, slots := 0, locals := 0 } : Room) s m ([.ref h0, .ref lw] : List Value).toArray below meth c H locs 0 0 (MQ below ((oQv D (fun (u : (Nat → Int32) × (Nat → Int32) × (Nat → Int32) × (Nat → Int32) × (Nat → Int32) × (Nat → Int32)) => (∀ j, 0 ≤ j → j < 10 → u.1 j = 0) ∧ ∀ j, 0 ≤ j → j < 5 → u.2.2.1 j = 0) (fun (u : (Nat → Int32) × (Nat → Int32) × (Nat → Int32) × (Nat → Int32) × (Nat → Int32) × (Nat → Int32)) => [(h0, .inr (9, [.int 0, .int 0, .int 0, .int 0, .int 0, .ref h0_dents, .ref h0_drops, .ref h0_how, .ref h0_triedOn, .ref h0_dropped, .ref h0_heldOn])), (aI ca h0_dents 10 u.1), (aI ca h0_drops 10 u.2.1), (aI ca h0_how 5 u.2.2.1), (aI ca h0_triedOn 5 u.2.2.2.1), (aI ca h0_dropped 5 u.2.2.2.2.1), (aI ca h0_heldOn 5 u.2.2.2.2.2), (lw, .inr (5, [.int lw_jurors, .int lw_floors, .int lw_cases, .int lw_one, .int lw_dent, .int 0, .ref lw_jurorName, .ref lw_floorName, .ref lw_caseName, .ref lw_pitch, .ref lw_length, .ref lw_hands, .ref lw_tune, .ref lw_dull, .ref lw_caseFloor, .ref lw_tuned]))])) A) ([.ref h0, .ref lw] : List Value).toArray s 0 0 A) (F0 m 58 ls []) := by
          intro n
          induction n with
          | zero => intro i_9 x_10 f_12 f_14 f_15 f_16 hi_i_9 hf_i_9; exact absurd hf_i_9 (by omega)
          | succ n ih =>
            intro i_9 x_10 f_12 f_14 f_15 f_16 hi_i_9 hf_i_9 ex_10 h_13 H locs ls hP hD hS hl
            refine lv_iload_n hx hb dX9_begin_58 rfl (lv_at hl 2 rfl) ?_
            refine lv_iconst (v := 5) hx hb dX9_begin_59 (by decide) ?_
            refine lv_icmp_ge (tgt := 97) hx hb dX9_begin_60 (by decide) (fun c_17 => ?_) (fun c_17 => ?_)
            · skip
              have nc_17 : 5 ≤ i_9 := ole rfl ex_10 (by omega) (by omega) c_17
              have h_18 : ∀ j, 0 ≤ j → j < 5 → f_12 j = 0 := fun j h1 h2 => h_13 j h1 (by omega)
              exact oE_v hx hb hr hlocks hP hD hS (f_4, f_6, f_12, f_14, f_15, f_16) [0, 1, 2, 3, 4, 5, 6, 7] rfl (by decide) ⟨h_8, h_18⟩ (Nat.le_of_ble_eq_true rfl) (Nat.le_of_ble_eq_true rfl) dX9_begin_97
            · skip
              have nc_17 : ¬ (5 ≤ i_9) := oleN rfl ex_10 (by omega) (by omega) c_17
              refine lv_aload_n hx hb dX9_begin_63 rfl (lv_at hl 0 rfl) ?_
              refine va_get (D := D) (ci := 9) (v := .ref h0_how) (C := RX9) (T := TX9) (N := 11) hx hb hts k2 hown hK.1 hP 0 rfl rfl 7 (by decide) k9 (fun _ h9 => h9) rfl dX9_begin_64 ?_
              refine lv_iload_n hx hb dX9_begin_67 rfl (lv_at hl 2 rfl) ?_
              refine lv_iconst (v := 0) hx hb dX9_begin_68 (by decide) ?_
              refine va_iast hx hb hK.1 hP hD hS 3 0 rfl rfl (oin (k := i_9) (by omega) (by decide) ex_10) dX9_begin_69 (fun H locs hP hD hS => ?_)
              obtain ⟨g_19, eg_19⟩ : ∃ y : Nat → Int32, y = upd f_12 (x_10 : Int32).toNatClampNeg 0 := ⟨_, rfl⟩
              rw [← eg_19] at hP hD
              have eg_19 : g_19 = upd f_12 i_9 0 := eg_19.trans (oze f_12 i_9 0 ex_10 (by omega))
              have h_20 : ∀ j, 0 ≤ j → j < i_9 → g_19 j = 0 := ofill h_13 eg_19 (fun _ _ => rfl)
              have hP : va_P D vwCl [(h0, .inr (9, [.int 0, .int 0, .int 0, .int 0, .int 0, .ref h0_dents, .ref h0_drops, .ref h0_how, .ref h0_triedOn, .ref h0_dropped, .ref h0_heldOn])), (aI ca h0_dents 10 f_4), (aI ca h0_drops 10 f_6), (aI ca h0_how 5 g_19), (aI ca h0_triedOn 5 f_14), (aI ca h0_dropped 5 f_15), (aI ca h0_heldOn 5 f_16), (lw, .inr (5, [.int lw_jurors, .int lw_floors, .int lw_cases, .int lw_one, .int lw_dent, .int 0, .ref lw_jurorName, .ref lw_floorName, .ref lw_caseName, .ref lw_pitch, .ref lw_length, .ref lw_hands, .ref lw_tune, .ref lw_dull, .ref lw_caseFloor, .ref lw_tuned]))] H := hP
              have hD : va_D A [(h0, .inr (9, [.int 0, .int 0, .int 0, .int 0, .int 0, .ref h0_dents, .ref h0_drops, .ref h0_how, .ref h0_triedOn, .ref h0_dropped, .ref h0_heldOn])), (aI ca h0_dents 10 f_4), (aI ca h0_drops 10 f_6), (aI ca h0_how 5 g_19), (aI ca h0_triedOn 5 f_14), (aI ca h0_dropped 5 f_15), (aI ca h0_heldOn 5 f_16), (lw, .inr (5, [.int lw_jurors, .int lw_floors, .int lw_cases, .int lw_one, .int lw_dent, .int 0, .ref lw_jurorName, .ref lw_floorName, .ref lw_caseName, .ref lw_pitch, .ref lw_length, .ref lw_hands, .ref lw_tune, .ref lw_dull, .ref lw_caseFloor, .ref lw_tuned]))] := hD
              refine lv_aload_n hx hb dX9_begin_70 rfl (lv_at hl 0 rfl) ?_
              refine va_get (D := D) (ci := 9) (v := .ref h0_triedOn) (C := RX9) (T := TX9) (N := 11) hx hb hts k2 hown hK.1 hP 0 rfl rfl 8 (by decide) k10 (fun _ h9 => h9) rfl dX9_begin_71 ?_
              refine lv_iload_n hx hb dX9_begin_74 rfl (lv_at hl 2 rfl) ?_
              refine lv_iconst (v := (-1)) hx hb dX9_begin_75 (by decide) ?_
              refine va_iast hx hb hK.1 hP hD hS 4 0 rfl rfl (oin (k := i_9) (by omega) (by decide) ex_10) dX9_begin_76 (fun H locs hP hD hS => ?_)
              obtain ⟨g_21, eg_21⟩ : ∃ y : Nat → Int32, y = upd f_14 (x_10 : Int32).toNatClampNeg (-1) := ⟨_, rfl⟩
              rw [← eg_21] at hP hD
              have eg_21 : g_21 = upd f_14 i_9 (-1) := eg_21.trans (oze f_14 i_9 (-1) ex_10 (by omega))
              have hP : va_P D vwCl [(h0, .inr (9, [.int 0, .int 0, .int 0, .int 0, .int 0, .ref h0_dents, .ref h0_drops, .ref h0_how, .ref h0_triedOn, .ref h0_dropped, .ref h0_heldOn])), (aI ca h0_dents 10 f_4), (aI ca h0_drops 10 f_6), (aI ca h0_how 5 g_19), (aI ca h0_triedOn 5 g_21), (aI ca h0_dropped 5 f_15), (aI ca h0_heldOn 5 f_16), (lw, .inr (5, [.int lw_jurors, .int lw_floors, .int lw_cases, .int lw_one, .int lw_dent, .int 0, .ref lw_jurorName, .ref lw_floorName, .ref lw_caseName, .ref lw_pitch, .ref lw_length, .ref lw_hands, .ref lw_tune, .ref lw_dull, .ref lw_caseFloor, .ref lw_tuned]))] H := hP
              have hD : va_D A [(h0, .inr (9, [.int 0, .int 0, .int 0, .int 0, .int 0, .ref h0_dents, .ref h0_drops, .ref h0_how, .ref h0_triedOn, .ref h0_dropped, .ref h0_heldOn])), (aI ca h0_dents 10 f_4), (aI ca h0_drops 10 f_6), (aI ca h0_how 5 g_19), (aI ca h0_triedOn 5 g_21), (aI ca h0_dropped 5 f_15), (aI ca h0_heldOn 5 f_16), (lw, .inr (5, [.int lw_jurors, .int lw_floors, .int lw_cases, .int lw_one, .int lw_dent, .int 0, .ref lw_jurorName, .ref lw_floorName, .ref lw_caseName, .ref lw_pitch, .ref lw_length, .ref lw_hands, .ref lw_tune, .ref lw_dull, .ref lw_caseFloor, .ref lw_tuned]))] := hD
              refine lv_aload_n hx hb dX9_begin_77 rfl (lv_at hl 0 rfl) ?_
              refine va_get (D := D) (ci := 9) (v := .ref h0_dropped) (C := RX9) (T := TX9) (N := 11) hx hb hts k2 hown hK.1 hP 0 rfl rfl 9 (by decide) k11 (fun _ h9 => h9) rfl dX9_begin_78 ?_
              refine lv_iload_n hx hb dX9_begin_81 rfl (lv_at hl 2 rfl) ?_
              refine lv_iconst (v := 0) hx hb dX9_begin_82 (by decide) ?_
              refine va_iast hx hb hK.1 hP hD hS 5 0 rfl rfl (oin (k := i_9) (by omega) (by decide) ex_10) dX9_begin_83 (fun H locs hP hD hS => ?_)
              obtain ⟨g_22, eg_22⟩ : ∃ y : Nat → Int32, y = upd f_15 (x_10 : Int32).toNatClampNeg 0 := ⟨_, rfl⟩
              rw [← eg_22] at hP hD
              have eg_22 : g_22 = upd f_15 i_9 0 := eg_22.trans (oze f_15 i_9 0 ex_10 (by omega))
              have hP : va_P D vwCl [(h0, .inr (9, [.int 0, .int 0, .int 0, .int 0, .int 0, .ref h0_dents, .ref h0_drops, .ref h0_how, .ref h0_triedOn, .ref h0_dropped, .ref h0_heldOn])), (aI ca h0_dents 10 f_4), (aI ca h0_drops 10 f_6), (aI ca h0_how 5 g_19), (aI ca h0_triedOn 5 g_21), (aI ca h0_dropped 5 g_22), (aI ca h0_heldOn 5 f_16), (lw, .inr (5, [.int lw_jurors, .int lw_floors, .int lw_cases, .int lw_one, .int lw_dent, .int 0, .ref lw_jurorName, .ref lw_floorName, .ref lw_caseName, .ref lw_pitch, .ref lw_length, .ref lw_hands, .ref lw_tune, .ref lw_dull, .ref lw_caseFloor, .ref lw_tuned]))] H := hP
              have hD : va_D A [(h0, .inr (9, [.int 0, .int 0, .int 0, .int 0, .int 0, .ref h0_dents, .ref h0_drops, .ref h0_how, .ref h0_triedOn, .ref h0_dropped, .ref h0_heldOn])), (aI ca h0_dents 10 f_4), (aI ca h0_drops 10 f_6), (aI ca h0_how 5 g_19), (aI ca h0_triedOn 5 g_21), (aI ca h0_dropped 5 g_22), (aI ca h0_heldOn 5 f_16), (lw, .inr (5, [.int lw_jurors, .int lw_floors, .int lw_cases, .int lw_one, .int lw_dent, .int 0, .ref lw_jurorName, .ref lw_floorName, .ref lw_caseName, .ref lw_pitch, .ref lw_length, .ref lw_hands, .ref lw_tune, .ref lw_dull, .ref lw_caseFloor, .ref lw_tuned]))] := hD
              refine lv_aload_n hx hb dX9_begin_84 rfl (lv_at hl 0 rfl) ?_
              refine va_get (D := D) (ci := 9) (v := .ref h0_heldOn) (C := RX9) (T := TX9) (N := 11) hx hb hts k2 hown hK.1 hP 0 rfl rfl 10 (by decide) k12 (fun _ h9 => h9) rfl dX9_begin_85 ?_
              refine lv_iload_n hx hb dX9_begin_88 rfl (lv_at hl 2 rfl) ?_
              refine lv_iconst (v := 0) hx hb dX9_begin_89 (by decide) ?_
              refine va_iast hx hb hK.1 hP hD hS 6 0 rfl rfl (oin (k := i_9) (by omega) (by decide) ex_10) dX9_begin_90 (fun H locs hP hD hS => ?_)
              obtain ⟨g_23, eg_23⟩ : ∃ y : Nat → Int32, y = upd f_16 (x_10 : Int32).toNatClampNeg 0 := ⟨_, rfl⟩
              rw [← eg_23] at hP hD
              have eg_23 : g_23 = upd f_16 i_9 0 := eg_23.trans (oze f_16 i_9 0 ex_10 (by omega))
              have hP : va_P D vwCl [(h0, .inr (9, [.int 0, .int 0, .int 0, .int 0, .int 0, .ref h0_dents, .ref h0_drops, .ref h0_how, .ref h0_triedOn, .ref h0_dropped, .ref h0_heldOn])), (aI ca h0_dents 10 f_4), (aI ca h0_drops 10 f_6), (aI ca h0_how 5 g_19), (aI ca h0_triedOn 5 g_21), (aI ca h0_dropped 5 g_22), (aI ca h0_heldOn 5 g_23), (lw, .inr (5, [.int lw_jurors, .int lw_floors, .int lw_cases, .int lw_one, .int lw_dent, .int 0, .ref lw_jurorName, .ref lw_floorName, .ref lw_caseName, .ref lw_pitch, .ref lw_length, .ref lw_hands, .ref lw_tune, .ref lw_dull, .ref lw_caseFloor, .ref lw_tuned]))] H := hP
              have hD : va_D A [(h0, .inr (9, [.int 0, .int 0, .int 0, .int 0, .int 0, .ref h0_dents, .ref h0_drops, .ref h0_how, .ref h0_triedOn, .ref h0_dropped, .ref h0_heldOn])), (aI ca h0_dents 10 f_4), (aI ca h0_drops 10 f_6), (aI ca h0_how 5 g_19), (aI ca h0_triedOn 5 g_21), (aI ca h0_dropped 5 g_22), (aI ca h0_heldOn 5 g_23), (lw, .inr (5, [.int lw_jurors, .int lw_floors, .int lw_cases, .int lw_one, .int lw_dent, .int 0, .ref lw_jurorName, .ref lw_floorName, .ref lw_caseName, .ref lw_pitch, .ref lw_length, .ref lw_hands, .ref lw_tune, .ref lw_dull, .ref lw_caseFloor, .ref lw_tuned]))] := hD
              obtain ⟨x_24, ex_24⟩ : ∃ y : Int32, y = x_10 + 1 := ⟨_, rfl⟩
              have nx_24 : x_24 = nI (i_9 + 1) := by rw [ex_24, ex_10]; exact nI_add _ 1
              refine lv_iinc (v := x_24) (lv' := [(2, .int x_24), (0, .ref h0), (1, .ref lw)]) hx hb dX9_begin_91 hl (k := 2) rfl (by rw [ex_24]; rfl) (by decide) rfl (fun ls hl => ?_)
              refine lv_goto (tgt := 58) hx hb dX9_begin_94 (by decide) ?_
              exact ih (i_9 + 1) x_24 g_19 g_21 g_22 g_23 (by omega) (by omega) nx_24 (ofill1 h_13 eg_19) H locs ls (oPsub hP [0, 1, 2, 3, 4, 5, 6, 7] rfl) (hD.sub [0, 1, 2, 3, 4, 5, 6, 7] (by decide) rfl) hS (lv_sub hl [1, 2, 0] rfl)
        exact LP_11 (5 + 1) 0 0 f_h0_how f_h0_triedOn f_h0_dropped f_h0_heldOn (by omega) (by omega) rfl (fun j h1 h2 => absurd h2 (by omega)) H locs ls (oPsub hP [0, 1, 2, 3, 4, 5, 6, 7] rfl) (hD.sub [0, 1, 2, 3, 4, 5, 6, 7] (by decide) rfl) hS (lv_sub hl [1, 2, 0] rfl)
      · skip
        have nc_7 : ¬ (10 ≤ i_1) := oleN rfl ex_2 (by omega) (by omega) c_7
        refine lv_aload_n hx hb dX9_begin_36 rfl (lv_at hl 0 rfl) ?_
        refine va_get (D := D) (ci := 9) (v := .ref h0_dents) (C := RX9) (T := TX9) (N := 11) hx hb hts k2 hown hK.1 hP 0 rfl rfl 5 (by decide) k13 (fun _ h9 => h9) rfl dX9_begin_37 ?_
        refine lv_iload_n hx hb dX9_begin_40 rfl (lv_at hl 2 rfl) ?_
        refine lv_iconst (v := 0) hx hb dX9_begin_41 (by decide) ?_
        refine va_iast hx hb hK.1 hP hD hS 1 0 rfl rfl (oin (k := i_1) (by omega) (by decide) ex_2) dX9_begin_42 (fun H locs hP hD hS => ?_)
        obtain ⟨g_25, eg_25⟩ : ∃ y : Nat → Int32, y = upd f_4 (x_2 : Int32).toNatClampNeg 0 := ⟨_, rfl⟩
        rw [← eg_25] at hP hD
        have eg_25 : g_25 = upd f_4 i_1 0 := eg_25.trans (oze f_4 i_1 0 ex_2 (by omega))
        have h_26 : ∀ j, 0 ≤ j → j < i_1 → g_25 j = 0 := ofill h_5 eg_25 (fun _ _ => rfl)
        have hP : va_P D vwCl [(h0, .inr (9, [.int 0, .int 0, .int 0, .int 0, .int 0, .ref h0_dents, .ref h0_drops, .ref h0_how, .ref h0_triedOn, .ref h0_dropped, .ref h0_heldOn])), (aI ca h0_dents 10 g_25), (aI ca h0_drops 10 f_6), (aI ca h0_how 5 f_h0_how), (aI ca h0_triedOn 5 f_h0_triedOn), (aI ca h0_dropped 5 f_h0_dropped), (aI ca h0_heldOn 5 f_h0_heldOn), (lw, .inr (5, [.int lw_jurors, .int lw_floors, .int lw_cases, .int lw_one, .int lw_dent, .int 0, .ref lw_jurorName, .ref lw_floorName, .ref lw_caseName, .ref lw_pitch, .ref lw_length, .ref lw_hands, .ref lw_tune, .ref lw_dull, .ref lw_caseFloor, .ref lw_tuned]))] H := hP
        have hD : va_D A [(h0, .inr (9, [.int 0, .int 0, .int 0, .int 0, .int 0, .ref h0_dents, .ref h0_drops, .ref h0_how, .ref h0_triedOn, .ref h0_dropped, .ref h0_heldOn])), (aI ca h0_dents 10 g_25), (aI ca h0_drops 10 f_6), (aI ca h0_how 5 f_h0_how), (aI ca h0_triedOn 5 f_h0_triedOn), (aI ca h0_dropped 5 f_h0_dropped), (aI ca h0_heldOn 5 f_h0_heldOn), (lw, .inr (5, [.int lw_jurors, .int lw_floors, .int lw_cases, .int lw_one, .int lw_dent, .int 0, .ref lw_jurorName, .ref lw_floorName, .ref lw_caseName, .ref lw_pitch, .ref lw_length, .ref lw_hands, .ref lw_tune, .ref lw_dull, .ref lw_caseFloor, .ref lw_tuned]))] := hD
        refine lv_aload_n hx hb dX9_begin_43 rfl (lv_at hl 0 rfl) ?_
        refine va_get (D := D) (ci := 9) (v := .ref h0_drops) (C := RX9) (T := TX9) (N := 11) hx hb hts k2 hown hK.1 hP 0 rfl rfl 6 (by decide) k14 (fun _ h9 => h9) rfl dX9_begin_44 ?_
        refine lv_iload_n hx hb dX9_begin_47 rfl (lv_at hl 2 rfl) ?_
        refine lv_iconst (v := 0) hx hb dX9_begin_48 (by decide) ?_
        refine va_iast hx hb hK.1 hP hD hS 2 0 rfl rfl (oin (k := i_1) (by omega) (by decide) ex_2) dX9_begin_49 (fun H locs hP hD hS => ?_)
        obtain ⟨g_27, eg_27⟩ : ∃ y : Nat → Int32, y = upd f_6 (x_2 : Int32).toNatClampNeg 0 := ⟨_, rfl⟩
        rw [← eg_27] at hP hD
        have eg_27 : g_27 = upd f_6 i_1 0 := eg_27.trans (oze f_6 i_1 0 ex_2 (by omega))
        have hP : va_P D vwCl [(h0, .inr (9, [.int 0, .int 0, .int 0, .int 0, .int 0, .ref h0_dents, .ref h0_drops, .ref h0_how, .ref h0_triedOn, .ref h0_dropped, .ref h0_heldOn])), (aI ca h0_dents 10 g_25), (aI ca h0_drops 10 g_27), (aI ca h0_how 5 f_h0_how), (aI ca h0_triedOn 5 f_h0_triedOn), (aI ca h0_dropped 5 f_h0_dropped), (aI ca h0_heldOn 5 f_h0_heldOn), (lw, .inr (5, [.int lw_jurors, .int lw_floors, .int lw_cases, .int lw_one, .int lw_dent, .int 0, .ref lw_jurorName, .ref lw_floorName, .ref lw_caseName, .ref lw_pitch, .ref lw_length, .ref lw_hands, .ref lw_tune, .ref lw_dull, .ref lw_caseFloor, .ref lw_tuned]))] H := hP
        have hD : va_D A [(h0, .inr (9, [.int 0, .int 0, .int 0, .int 0, .int 0, .ref h0_dents, .ref h0_drops, .ref h0_how, .ref h0_triedOn, .ref h0_dropped, .ref h0_heldOn])), (aI ca h0_dents 10 g_25), (aI ca h0_drops 10 g_27), (aI ca h0_how 5 f_h0_how), (aI ca h0_triedOn 5 f_h0_triedOn), (aI ca h0_dropped 5 f_h0_dropped), (aI ca h0_heldOn 5 f_h0_heldOn), (lw, .inr (5, [.int lw_jurors, .int lw_floors, .int lw_cases, .int lw_one, .int lw_dent, .int 0, .ref lw_jurorName, .ref lw_floorName, .ref lw_caseName, .ref lw_pitch, .ref lw_length, .ref lw_hands, .ref lw_tune, .ref lw_dull, .ref lw_caseFloor, .ref lw_tuned]))] := hD
        obtain ⟨x_28, ex_28⟩ : ∃ y : Int32, y = x_2 + 1 := ⟨_, rfl⟩
        have nx_28 : x_28 = nI (i_1 + 1) := by rw [ex_28, ex_2]; exact nI_add _ 1
        refine lv_iinc (v := x_28) (lv' := [(2, .int x_28), (0, .ref h0), (1, .ref lw)]) hx hb dX9_begin_50 hl (k := 2) rfl (by rw [ex_28]; rfl) (by decide) rfl (fun ls hl => ?_)
        refine lv_goto (tgt := 30) hx hb dX9_begin_53 (by decide) ?_
        exact ih (i_1 + 1) x_28 g_25 g_27 (by omega) (by omega) nx_28 (ofill1 h_5 eg_25) H locs ls (oPsub hP [0, 1, 2, 3, 4, 5, 6, 7] rfl) (hD.sub [0, 1, 2, 3, 4, 5, 6, 7] (by decide) rfl) hS (lv_sub hl [1, 2, 0] rfl)
  exact LP_3 (10 + 1) 0 0 f_h0_dents f_h0_drops (by omega) (by omega) rfl (fun j h1 h2 => absurd h2 (by omega)) H locs ls (oPsub hP [0, 1, 2, 3, 4, 5, 6, 7] rfl) (hD.sub [0, 1, 2, 3, 4, 5, 6, 7] (by decide) rfl) hS (lv_sub hl [1, 2, 0] rfl)
theorem dX5_copyFrom_0 : decode cX5_copyFrom 0 = .ok (.aload_n 0, 1) := by decide +kernel
theorem dX5_copyFrom_1 : decode cX5_copyFrom 1 = .ok (.aload_n 1, 1) := by decide +kernel
theorem dX5_copyFrom_2 : decode cX5_copyFrom 2 = .ok (.getfield 43, 3) := by decide +kernel
theorem dX5_copyFrom_5 : decode cX5_copyFrom 5 = .ok (.putfield 43, 3) := by decide +kernel
theorem dX5_copyFrom_8 : decode cX5_copyFrom 8 = .ok (.aload_n 0, 1) := by decide +kernel
theorem dX5_copyFrom_9 : decode cX5_copyFrom 9 = .ok (.aload_n 1, 1) := by decide +kernel
theorem dX5_copyFrom_10 : decode cX5_copyFrom 10 = .ok (.getfield 47, 3) := by decide +kernel
theorem dX5_copyFrom_13 : decode cX5_copyFrom 13 = .ok (.putfield 47, 3) := by decide +kernel
theorem dX5_copyFrom_16 : decode cX5_copyFrom 16 = .ok (.aload_n 0, 1) := by decide +kernel
theorem dX5_copyFrom_17 : decode cX5_copyFrom 17 = .ok (.aload_n 1, 1) := by decide +kernel
theorem dX5_copyFrom_18 : decode cX5_copyFrom 18 = .ok (.getfield 50, 3) := by decide +kernel
theorem dX5_copyFrom_21 : decode cX5_copyFrom 21 = .ok (.putfield 50, 3) := by decide +kernel
theorem dX5_copyFrom_24 : decode cX5_copyFrom 24 = .ok (.aload_n 0, 1) := by decide +kernel
theorem dX5_copyFrom_25 : decode cX5_copyFrom 25 = .ok (.aload_n 1, 1) := by decide +kernel
theorem dX5_copyFrom_26 : decode cX5_copyFrom 26 = .ok (.getfield 53, 3) := by decide +kernel
theorem dX5_copyFrom_29 : decode cX5_copyFrom 29 = .ok (.putfield 53, 3) := by decide +kernel
theorem dX5_copyFrom_32 : decode cX5_copyFrom 32 = .ok (.aload_n 0, 1) := by decide +kernel
theorem dX5_copyFrom_33 : decode cX5_copyFrom 33 = .ok (.aload_n 1, 1) := by decide +kernel
theorem dX5_copyFrom_34 : decode cX5_copyFrom 34 = .ok (.getfield 56, 3) := by decide +kernel
theorem dX5_copyFrom_37 : decode cX5_copyFrom 37 = .ok (.putfield 56, 3) := by decide +kernel
theorem dX5_copyFrom_40 : decode cX5_copyFrom 40 = .ok (.aload_n 0, 1) := by decide +kernel
theorem dX5_copyFrom_41 : decode cX5_copyFrom 41 = .ok (.aload_n 1, 1) := by decide +kernel
theorem dX5_copyFrom_42 : decode cX5_copyFrom 42 = .ok (.getfield 59, 3) := by decide +kernel
theorem dX5_copyFrom_45 : decode cX5_copyFrom 45 = .ok (.putfield 59, 3) := by decide +kernel
theorem dX5_copyFrom_48 : decode cX5_copyFrom 48 = .ok (.aload_n 1, 1) := by decide +kernel
theorem dX5_copyFrom_49 : decode cX5_copyFrom 49 = .ok (.getfield 9, 3) := by decide +kernel
theorem dX5_copyFrom_52 : decode cX5_copyFrom 52 = .ok (.iconst 0, 1) := by decide +kernel
theorem dX5_copyFrom_53 : decode cX5_copyFrom 53 = .ok (.aload_n 0, 1) := by decide +kernel
theorem dX5_copyFrom_54 : decode cX5_copyFrom 54 = .ok (.getfield 9, 3) := by decide +kernel
theorem dX5_copyFrom_57 : decode cX5_copyFrom 57 = .ok (.iconst 0, 1) := by decide +kernel
theorem dX5_copyFrom_58 : decode cX5_copyFrom 58 = .ok (.bipush 10, 2) := by decide +kernel
theorem dX5_copyFrom_60 : decode cX5_copyFrom 60 = .ok (.invokestatic 62, 3) := by decide +kernel
theorem dX5_copyFrom_63 : decode cX5_copyFrom 63 = .ok (.aload_n 1, 1) := by decide +kernel
theorem dX5_copyFrom_64 : decode cX5_copyFrom 64 = .ok (.getfield 15, 3) := by decide +kernel
theorem dX5_copyFrom_67 : decode cX5_copyFrom 67 = .ok (.iconst 0, 1) := by decide +kernel
theorem dX5_copyFrom_68 : decode cX5_copyFrom 68 = .ok (.aload_n 0, 1) := by decide +kernel
theorem dX5_copyFrom_69 : decode cX5_copyFrom 69 = .ok (.getfield 15, 3) := by decide +kernel
theorem dX5_copyFrom_72 : decode cX5_copyFrom 72 = .ok (.iconst 0, 1) := by decide +kernel
theorem dX5_copyFrom_73 : decode cX5_copyFrom 73 = .ok (.iconst 4, 1) := by decide +kernel
theorem dX5_copyFrom_74 : decode cX5_copyFrom 74 = .ok (.invokestatic 62, 3) := by decide +kernel
theorem dX5_copyFrom_77 : decode cX5_copyFrom 77 = .ok (.aload_n 1, 1) := by decide +kernel
theorem dX5_copyFrom_78 : decode cX5_copyFrom 78 = .ok (.getfield 18, 3) := by decide +kernel
theorem dX5_copyFrom_81 : decode cX5_copyFrom 81 = .ok (.iconst 0, 1) := by decide +kernel
theorem dX5_copyFrom_82 : decode cX5_copyFrom 82 = .ok (.aload_n 0, 1) := by decide +kernel
theorem dX5_copyFrom_83 : decode cX5_copyFrom 83 = .ok (.getfield 18, 3) := by decide +kernel
theorem dX5_copyFrom_86 : decode cX5_copyFrom 86 = .ok (.iconst 0, 1) := by decide +kernel
theorem dX5_copyFrom_87 : decode cX5_copyFrom 87 = .ok (.iconst 5, 1) := by decide +kernel
theorem dX5_copyFrom_88 : decode cX5_copyFrom 88 = .ok (.invokestatic 62, 3) := by decide +kernel
theorem dX5_copyFrom_91 : decode cX5_copyFrom 91 = .ok (.aload_n 1, 1) := by decide +kernel
theorem dX5_copyFrom_92 : decode cX5_copyFrom 92 = .ok (.getfield 21, 3) := by decide +kernel
theorem dX5_copyFrom_95 : decode cX5_copyFrom 95 = .ok (.iconst 0, 1) := by decide +kernel
theorem dX5_copyFrom_96 : decode cX5_copyFrom 96 = .ok (.aload_n 0, 1) := by decide +kernel
theorem dX5_copyFrom_97 : decode cX5_copyFrom 97 = .ok (.getfield 21, 3) := by decide +kernel
theorem dX5_copyFrom_100 : decode cX5_copyFrom 100 = .ok (.iconst 0, 1) := by decide +kernel
theorem dX5_copyFrom_101 : decode cX5_copyFrom 101 = .ok (.bipush 10, 2) := by decide +kernel
theorem dX5_copyFrom_103 : decode cX5_copyFrom 103 = .ok (.invokestatic 62, 3) := by decide +kernel
theorem dX5_copyFrom_106 : decode cX5_copyFrom 106 = .ok (.aload_n 1, 1) := by decide +kernel
theorem dX5_copyFrom_107 : decode cX5_copyFrom 107 = .ok (.getfield 25, 3) := by decide +kernel
theorem dX5_copyFrom_110 : decode cX5_copyFrom 110 = .ok (.iconst 0, 1) := by decide +kernel
theorem dX5_copyFrom_111 : decode cX5_copyFrom 111 = .ok (.aload_n 0, 1) := by decide +kernel
theorem dX5_copyFrom_112 : decode cX5_copyFrom 112 = .ok (.getfield 25, 3) := by decide +kernel
theorem dX5_copyFrom_115 : decode cX5_copyFrom 115 = .ok (.iconst 0, 1) := by decide +kernel
theorem dX5_copyFrom_116 : decode cX5_copyFrom 116 = .ok (.bipush 10, 2) := by decide +kernel
theorem dX5_copyFrom_118 : decode cX5_copyFrom 118 = .ok (.invokestatic 62, 3) := by decide +kernel
theorem dX5_copyFrom_121 : decode cX5_copyFrom 121 = .ok (.aload_n 1, 1) := by decide +kernel
theorem dX5_copyFrom_122 : decode cX5_copyFrom 122 = .ok (.getfield 28, 3) := by decide +kernel
theorem dX5_copyFrom_125 : decode cX5_copyFrom 125 = .ok (.iconst 0, 1) := by decide +kernel
theorem dX5_copyFrom_126 : decode cX5_copyFrom 126 = .ok (.aload_n 0, 1) := by decide +kernel
theorem dX5_copyFrom_127 : decode cX5_copyFrom 127 = .ok (.getfield 28, 3) := by decide +kernel
theorem dX5_copyFrom_130 : decode cX5_copyFrom 130 = .ok (.iconst 0, 1) := by decide +kernel
theorem dX5_copyFrom_131 : decode cX5_copyFrom 131 = .ok (.bipush 10, 2) := by decide +kernel
theorem dX5_copyFrom_133 : decode cX5_copyFrom 133 = .ok (.invokestatic 62, 3) := by decide +kernel
theorem dX5_copyFrom_136 : decode cX5_copyFrom 136 = .ok (.aload_n 1, 1) := by decide +kernel
theorem dX5_copyFrom_137 : decode cX5_copyFrom 137 = .ok (.getfield 31, 3) := by decide +kernel
theorem dX5_copyFrom_140 : decode cX5_copyFrom 140 = .ok (.iconst 0, 1) := by decide +kernel
theorem dX5_copyFrom_141 : decode cX5_copyFrom 141 = .ok (.aload_n 0, 1) := by decide +kernel
theorem dX5_copyFrom_142 : decode cX5_copyFrom 142 = .ok (.getfield 31, 3) := by decide +kernel
theorem dX5_copyFrom_145 : decode cX5_copyFrom 145 = .ok (.iconst 0, 1) := by decide +kernel
theorem dX5_copyFrom_146 : decode cX5_copyFrom 146 = .ok (.iconst 4, 1) := by decide +kernel
theorem dX5_copyFrom_147 : decode cX5_copyFrom 147 = .ok (.invokestatic 62, 3) := by decide +kernel
theorem dX5_copyFrom_150 : decode cX5_copyFrom 150 = .ok (.aload_n 1, 1) := by decide +kernel
theorem dX5_copyFrom_151 : decode cX5_copyFrom 151 = .ok (.getfield 34, 3) := by decide +kernel
theorem dX5_copyFrom_154 : decode cX5_copyFrom 154 = .ok (.iconst 0, 1) := by decide +kernel
theorem dX5_copyFrom_155 : decode cX5_copyFrom 155 = .ok (.aload_n 0, 1) := by decide +kernel
theorem dX5_copyFrom_156 : decode cX5_copyFrom 156 = .ok (.getfield 34, 3) := by decide +kernel
theorem dX5_copyFrom_159 : decode cX5_copyFrom 159 = .ok (.iconst 0, 1) := by decide +kernel
theorem dX5_copyFrom_160 : decode cX5_copyFrom 160 = .ok (.iconst 4, 1) := by decide +kernel
theorem dX5_copyFrom_161 : decode cX5_copyFrom 161 = .ok (.invokestatic 62, 3) := by decide +kernel
theorem dX5_copyFrom_164 : decode cX5_copyFrom 164 = .ok (.aload_n 1, 1) := by decide +kernel
theorem dX5_copyFrom_165 : decode cX5_copyFrom 165 = .ok (.getfield 37, 3) := by decide +kernel
theorem dX5_copyFrom_168 : decode cX5_copyFrom 168 = .ok (.iconst 0, 1) := by decide +kernel
theorem dX5_copyFrom_169 : decode cX5_copyFrom 169 = .ok (.aload_n 0, 1) := by decide +kernel
theorem dX5_copyFrom_170 : decode cX5_copyFrom 170 = .ok (.getfield 37, 3) := by decide +kernel
theorem dX5_copyFrom_173 : decode cX5_copyFrom 173 = .ok (.iconst 0, 1) := by decide +kernel
theorem dX5_copyFrom_174 : decode cX5_copyFrom 174 = .ok (.iconst 5, 1) := by decide +kernel
theorem dX5_copyFrom_175 : decode cX5_copyFrom 175 = .ok (.invokestatic 62, 3) := by decide +kernel
theorem dX5_copyFrom_178 : decode cX5_copyFrom 178 = .ok (.aload_n 1, 1) := by decide +kernel
theorem dX5_copyFrom_179 : decode cX5_copyFrom 179 = .ok (.getfield 40, 3) := by decide +kernel
theorem dX5_copyFrom_182 : decode cX5_copyFrom 182 = .ok (.iconst 0, 1) := by decide +kernel
theorem dX5_copyFrom_183 : decode cX5_copyFrom 183 = .ok (.aload_n 0, 1) := by decide +kernel
theorem dX5_copyFrom_184 : decode cX5_copyFrom 184 = .ok (.getfield 40, 3) := by decide +kernel
theorem dX5_copyFrom_187 : decode cX5_copyFrom 187 = .ok (.iconst 0, 1) := by decide +kernel
theorem dX5_copyFrom_188 : decode cX5_copyFrom 188 = .ok (.bipush 40, 2) := by decide +kernel
theorem dX5_copyFrom_190 : decode cX5_copyFrom 190 = .ok (.invokestatic 62, 3) := by decide +kernel
theorem dX5_copyFrom_193 : decode cX5_copyFrom 193 = .ok (.return_, 1) := by decide +kernel
set_option maxHeartbeats 4000000 in
set_option maxRecDepth 100000 in
theorem c_X5_copyFrom (l : Launch) (D : va_G) (ca : Nat → ClassId) (sz : Nat) (h0 : Nat) (o0 : Nat) (h0_jurors : Int32) (h0_floors : Int32) (h0_cases : Int32) (h0_one : Int32) (h0_dent : Int32) (h0_seated : Int32) (h0_jurorName : Nat) (h0_floorName : Nat) (h0_caseName : Nat) (h0_pitch : Nat) (h0_length : Nat) (h0_hands : Nat) (h0_tune : Nat) (h0_dull : Nat) (h0_caseFloor : Nat) (h0_tuned : Nat) (f_h0_jurorName : Nat → Int64) (f_h0_floorName : Nat → Int64) (f_h0_caseName : Nat → Int64) (f_h0_pitch : Nat → Int32) (f_h0_length : Nat → Int32) (f_h0_hands : Nat → Int32) (f_h0_tune : Nat → Int32) (f_h0_dull : Nat → Int32) (f_h0_caseFloor : Nat → Int32) (f_h0_tuned : Nat → Int32) (o0_jurors : Int32) (o0_floors : Int32) (o0_cases : Int32) (o0_one : Int32) (o0_dent : Int32) (o0_seated : Int32) (o0_jurorName : Nat) (o0_floorName : Nat) (o0_caseName : Nat) (o0_pitch : Nat) (o0_length : Nat) (o0_hands : Nat) (o0_tune : Nat) (o0_dull : Nat) (o0_caseFloor : Nat) (o0_tuned : Nat) (f_o0_jurorName : Nat → Int64) (f_o0_floorName : Nat → Int64) (f_o0_caseName : Nat → Int64) (f_o0_pitch : Nat → Int32) (f_o0_length : Nat → Int32) (f_o0_hands : Nat → Int32) (f_o0_tune : Nat → Int32) (f_o0_dull : Nat → Int32) (f_o0_caseFloor : Nat → Int32) (f_o0_tuned : Nat → Int32)  : oMet l yX5_copyFrom wsX5_copyFrom ({ frames := 1, cells := 0, slots := 0, locals := 60 } : Room) [.ref h0, .ref o0] D ca sz [(h0, .inr (5, [.int h0_jurors, .int h0_floors, .int h0_cases, .int h0_one, .int h0_dent, .int h0_seated, .ref h0_jurorName, .ref h0_floorName, .ref h0_caseName, .ref h0_pitch, .ref h0_length, .ref h0_hands, .ref h0_tune, .ref h0_dull, .ref h0_caseFloor, .ref h0_tuned])), (aJ ca h0_jurorName 10 f_h0_jurorName), (aJ ca h0_floorName 4 f_h0_floorName), (aJ ca h0_caseName 5 f_h0_caseName), (aI ca h0_pitch 10 f_h0_pitch), (aI ca h0_length 10 f_h0_length), (aI ca h0_hands 10 f_h0_hands), (aI ca h0_tune 4 f_h0_tune), (aI ca h0_dull 4 f_h0_dull), (aI ca h0_caseFloor 5 f_h0_caseFloor), (aI ca h0_tuned 40 f_h0_tuned), (o0, .inr (5, [.int o0_jurors, .int o0_floors, .int o0_cases, .int o0_one, .int o0_dent, .int o0_seated, .ref o0_jurorName, .ref o0_floorName, .ref o0_caseName, .ref o0_pitch, .ref o0_length, .ref o0_hands, .ref o0_tune, .ref o0_dull, .ref o0_caseFloor, .ref o0_tuned])), (aJ ca o0_jurorName 10 f_o0_jurorName), (aJ ca o0_floorName 4 f_o0_floorName), (aJ ca o0_caseName 5 f_o0_caseName), (aI ca o0_pitch 10 f_o0_pitch), (aI ca o0_length 10 f_o0_length), (aI ca o0_hands 10 f_o0_hands), (aI ca o0_tune 4 f_o0_tune), (aI ca o0_dull 4 f_o0_dull), (aI ca o0_caseFloor 5 f_o0_caseFloor), (aI ca o0_tuned 40 f_o0_tuned)] (oQv D (fun (u : (Nat → Int64) × (Nat → Int64) × (Nat → Int64) × (Nat → Int32) × (Nat → Int32) × (Nat → Int32) × (Nat → Int32) × (Nat → Int32) × (Nat → Int32) × (Nat → Int32)) => True) (fun (u : (Nat → Int64) × (Nat → Int64) × (Nat → Int64) × (Nat → Int32) × (Nat → Int32) × (Nat → Int32) × (Nat → Int32) × (Nat → Int32) × (Nat → Int32) × (Nat → Int32)) => [(h0, .inr (5, [.int o0_jurors, .int o0_floors, .int o0_cases, .int o0_one, .int o0_dent, .int o0_seated, .ref h0_jurorName, .ref h0_floorName, .ref h0_caseName, .ref h0_pitch, .ref h0_length, .ref h0_hands, .ref h0_tune, .ref h0_dull, .ref h0_caseFloor, .ref h0_tuned])), (aJ ca h0_jurorName 10 u.1), (aJ ca h0_floorName 4 u.2.1), (aJ ca h0_caseName 5 u.2.2.1), (aI ca h0_pitch 10 u.2.2.2.1), (aI ca h0_length 10 u.2.2.2.2.1), (aI ca h0_hands 10 u.2.2.2.2.2.1), (aI ca h0_tune 4 u.2.2.2.2.2.2.1), (aI ca h0_dull 4 u.2.2.2.2.2.2.2.1), (aI ca h0_caseFloor 5 u.2.2.2.2.2.2.2.2.1), (aI ca h0_tuned 40 u.2.2.2.2.2.2.2.2.2), (o0, .inr (5, [.int o0_jurors, .int o0_floors, .int o0_cases, .int o0_one, .int o0_dent, .int o0_seated, .ref o0_jurorName, .ref o0_floorName, .ref o0_caseName, .ref o0_pitch, .ref o0_length, .ref o0_hands, .ref o0_tune, .ref o0_dull, .ref o0_caseFloor, .ref o0_tuned])), (aJ ca o0_jurorName 10 f_o0_jurorName), (aJ ca o0_floorName 4 f_o0_floorName), (aJ ca o0_caseName 5 f_o0_caseName), (aI ca o0_pitch 10 f_o0_pitch), (aI ca o0_length 10 f_o0_length), (aI ca o0_hands 10 f_o0_hands), (aI ca o0_tune 4 f_o0_tune), (aI ca o0_dull 4 f_o0_dull), (aI ca o0_caseFloor 5 f_o0_caseFloor), (aI ca o0_tuned 40 f_o0_tuned)])) 0 0 := by
  refine oM (cc := cX5_copyFrom) (maxL := 2) (ret := none) (by decide) rfl (Nat.le_of_ble_eq_true rfl) [(0, .ref h0), (1, .ref o0)] rfl ?_
  intro p e s m below meth c A H locs ls hx hb hr hml hts hown hlocks hin hK hP hD hA hS hl
  have hown : s.vm.findClass RX5 = some m.cls := hown
  have k1 := hts (.fieldLink RX5 43 "LidCourt$Law" "jurors" "I") (by decide +kernel)
  have k2 : ∀ w ∈ wsX50, w ∈ wsX5_copyFrom := fun _ h => List.mem_cons_of_mem _ (List.mem_append_right _ h)
  have k3 := hts (.fieldLink RX5 47 "LidCourt$Law" "floors" "I") (by decide +kernel)
  have k4 := hts (.fieldLink RX5 50 "LidCourt$Law" "cases" "I") (by decide +kernel)
  have k5 := hts (.fieldLink RX5 53 "LidCourt$Law" "one" "I") (by decide +kernel)
  have k6 := hts (.fieldLink RX5 56 "LidCourt$Law" "dent" "I") (by decide +kernel)
  have k7 := hts (.fieldLink RX5 59 "LidCourt$Law" "seated" "I") (by decide +kernel)
  have k8 := hts (.fieldLink RX5 9 "LidCourt$Law" "jurorName" "[J") (by decide +kernel)
  have k9 := hts (.methodLink RX5 62 arraycopyName) (by decide +kernel)
  have k10 := hts (.native arraycopyName) (by decide +kernel)
  have k11 := hts (.static arraycopyName) (by decide +kernel)
  have k12 := hts (.initialized "java/lang/System") (by decide +kernel)
  have k13 := hts (.fieldLink RX5 15 "LidCourt$Law" "floorName" "[J") (by decide +kernel)
  have k14 := hts (.fieldLink RX5 18 "LidCourt$Law" "caseName" "[J") (by decide +kernel)
  have k15 := hts (.fieldLink RX5 21 "LidCourt$Law" "pitch" "[I") (by decide +kernel)
  have k16 := hts (.fieldLink RX5 25 "LidCourt$Law" "length" "[I") (by decide +kernel)
  have k17 := hts (.fieldLink RX5 28 "LidCourt$Law" "hands" "[I") (by decide +kernel)
  have k18 := hts (.fieldLink RX5 31 "LidCourt$Law" "tune" "[I") (by decide +kernel)
  have k19 := hts (.fieldLink RX5 34 "LidCourt$Law" "dull" "[I") (by decide +kernel)
  have k20 := hts (.fieldLink RX5 37 "LidCourt$Law" "caseFloor" "[I") (by decide +kernel)
  have k21 := hts (.fieldLink RX5 40 "LidCourt$Law" "tuned" "[I") (by decide +kernel)
  refine lv_aload_n hx hb dX5_copyFrom_0 rfl (lv_at hl 0 rfl) ?_
  refine lv_aload_n hx hb dX5_copyFrom_1 rfl (lv_at hl 1 rfl) ?_
  refine va_get (D := D) (ci := 5) (v := .int o0_jurors) (C := RX5) (T := TX5) (N := 16) hx hb hts k2 hown hK.1 hP 11 rfl rfl 0 (by decide) k1 (fun _ h9 => h9) rfl dX5_copyFrom_2 ?_
  refine va_put (D := D) (ci := 5) (v := .int o0_jurors) (ty := .int) (C := RX5) (T := TX5) (N := 16) hx hb hts k2 tyX5 tyX5_ok nmX5 hown hK.1 hP hD hS 0 rfl rfl 0 (by decide) k1 (fun _ h9 => h9) rfl (by decide +kernel) rfl rfl (Nat.le_of_ble_eq_true rfl) dX5_copyFrom_5 (fun H locs hP hD hS => ?_)
  have hP : va_P D vwCl [(h0, .inr (5, [.int o0_jurors, .int h0_floors, .int h0_cases, .int h0_one, .int h0_dent, .int h0_seated, .ref h0_jurorName, .ref h0_floorName, .ref h0_caseName, .ref h0_pitch, .ref h0_length, .ref h0_hands, .ref h0_tune, .ref h0_dull, .ref h0_caseFloor, .ref h0_tuned])), (aJ ca h0_jurorName 10 f_h0_jurorName), (aJ ca h0_floorName 4 f_h0_floorName), (aJ ca h0_caseName 5 f_h0_caseName), (aI ca h0_pitch 10 f_h0_pitch), (aI ca h0_length 10 f_h0_length), (aI ca h0_hands 10 f_h0_hands), (aI ca h0_tune 4 f_h0_tune), (aI ca h0_dull 4 f_h0_dull), (aI ca h0_caseFloor 5 f_h0_caseFloor), (aI ca h0_tuned 40 f_h0_tuned), (o0, .inr (5, [.int o0_jurors, .int o0_floors, .int o0_cases, .int o0_one, .int o0_dent, .int o0_seated, .ref o0_jurorName, .ref o0_floorName, .ref o0_caseName, .ref o0_pitch, .ref o0_length, .ref o0_hands, .ref o0_tune, .ref o0_dull, .ref o0_caseFloor, .ref o0_tuned])), (aJ ca o0_jurorName 10 f_o0_jurorName), (aJ ca o0_floorName 4 f_o0_floorName), (aJ ca o0_caseName 5 f_o0_caseName), (aI ca o0_pitch 10 f_o0_pitch), (aI ca o0_length 10 f_o0_length), (aI ca o0_hands 10 f_o0_hands), (aI ca o0_tune 4 f_o0_tune), (aI ca o0_dull 4 f_o0_dull), (aI ca o0_caseFloor 5 f_o0_caseFloor), (aI ca o0_tuned 40 f_o0_tuned)] H := hP
  have hD : va_D A [(h0, .inr (5, [.int o0_jurors, .int h0_floors, .int h0_cases, .int h0_one, .int h0_dent, .int h0_seated, .ref h0_jurorName, .ref h0_floorName, .ref h0_caseName, .ref h0_pitch, .ref h0_length, .ref h0_hands, .ref h0_tune, .ref h0_dull, .ref h0_caseFloor, .ref h0_tuned])), (aJ ca h0_jurorName 10 f_h0_jurorName), (aJ ca h0_floorName 4 f_h0_floorName), (aJ ca h0_caseName 5 f_h0_caseName), (aI ca h0_pitch 10 f_h0_pitch), (aI ca h0_length 10 f_h0_length), (aI ca h0_hands 10 f_h0_hands), (aI ca h0_tune 4 f_h0_tune), (aI ca h0_dull 4 f_h0_dull), (aI ca h0_caseFloor 5 f_h0_caseFloor), (aI ca h0_tuned 40 f_h0_tuned), (o0, .inr (5, [.int o0_jurors, .int o0_floors, .int o0_cases, .int o0_one, .int o0_dent, .int o0_seated, .ref o0_jurorName, .ref o0_floorName, .ref o0_caseName, .ref o0_pitch, .ref o0_length, .ref o0_hands, .ref o0_tune, .ref o0_dull, .ref o0_caseFloor, .ref o0_tuned])), (aJ ca o0_jurorName 10 f_o0_jurorName), (aJ ca o0_floorName 4 f_o0_floorName), (aJ ca o0_caseName 5 f_o0_caseName), (aI ca o0_pitch 10 f_o0_pitch), (aI ca o0_length 10 f_o0_length), (aI ca o0_hands 10 f_o0_hands), (aI ca o0_tune 4 f_o0_tune), (aI ca o0_dull 4 f_o0_dull), (aI ca o0_caseFloor 5 f_o0_caseFloor), (aI ca o0_tuned 40 f_o0_tuned)] := hD
  refine lv_aload_n hx hb dX5_copyFrom_8 rfl (lv_at hl 0 rfl) ?_
  refine lv_aload_n hx hb dX5_copyFrom_9 rfl (lv_at hl 1 rfl) ?_
  refine va_get (D := D) (ci := 5) (v := .int o0_floors) (C := RX5) (T := TX5) (N := 16) hx hb hts k2 hown hK.1 hP 11 rfl rfl 1 (by decide) k3 (fun _ h9 => h9) rfl dX5_copyFrom_10 ?_
  refine va_put (D := D) (ci := 5) (v := .int o0_floors) (ty := .int) (C := RX5) (T := TX5) (N := 16) hx hb hts k2 tyX5 tyX5_ok nmX5 hown hK.1 hP hD hS 0 rfl rfl 1 (by decide) k3 (fun _ h9 => h9) rfl (by decide +kernel) rfl rfl (Nat.le_of_ble_eq_true rfl) dX5_copyFrom_13 (fun H locs hP hD hS => ?_)
  have hP : va_P D vwCl [(h0, .inr (5, [.int o0_jurors, .int o0_floors, .int h0_cases, .int h0_one, .int h0_dent, .int h0_seated, .ref h0_jurorName, .ref h0_floorName, .ref h0_caseName, .ref h0_pitch, .ref h0_length, .ref h0_hands, .ref h0_tune, .ref h0_dull, .ref h0_caseFloor, .ref h0_tuned])), (aJ ca h0_jurorName 10 f_h0_jurorName), (aJ ca h0_floorName 4 f_h0_floorName), (aJ ca h0_caseName 5 f_h0_caseName), (aI ca h0_pitch 10 f_h0_pitch), (aI ca h0_length 10 f_h0_length), (aI ca h0_hands 10 f_h0_hands), (aI ca h0_tune 4 f_h0_tune), (aI ca h0_dull 4 f_h0_dull), (aI ca h0_caseFloor 5 f_h0_caseFloor), (aI ca h0_tuned 40 f_h0_tuned), (o0, .inr (5, [.int o0_jurors, .int o0_floors, .int o0_cases, .int o0_one, .int o0_dent, .int o0_seated, .ref o0_jurorName, .ref o0_floorName, .ref o0_caseName, .ref o0_pitch, .ref o0_length, .ref o0_hands, .ref o0_tune, .ref o0_dull, .ref o0_caseFloor, .ref o0_tuned])), (aJ ca o0_jurorName 10 f_o0_jurorName), (aJ ca o0_floorName 4 f_o0_floorName), (aJ ca o0_caseName 5 f_o0_caseName), (aI ca o0_pitch 10 f_o0_pitch), (aI ca o0_length 10 f_o0_length), (aI ca o0_hands 10 f_o0_hands), (aI ca o0_tune 4 f_o0_tune), (aI ca o0_dull 4 f_o0_dull), (aI ca o0_caseFloor 5 f_o0_caseFloor), (aI ca o0_tuned 40 f_o0_tuned)] H := hP
  have hD : va_D A [(h0, .inr (5, [.int o0_jurors, .int o0_floors, .int h0_cases, .int h0_one, .int h0_dent, .int h0_seated, .ref h0_jurorName, .ref h0_floorName, .ref h0_caseName, .ref h0_pitch, .ref h0_length, .ref h0_hands, .ref h0_tune, .ref h0_dull, .ref h0_caseFloor, .ref h0_tuned])), (aJ ca h0_jurorName 10 f_h0_jurorName), (aJ ca h0_floorName 4 f_h0_floorName), (aJ ca h0_caseName 5 f_h0_caseName), (aI ca h0_pitch 10 f_h0_pitch), (aI ca h0_length 10 f_h0_length), (aI ca h0_hands 10 f_h0_hands), (aI ca h0_tune 4 f_h0_tune), (aI ca h0_dull 4 f_h0_dull), (aI ca h0_caseFloor 5 f_h0_caseFloor), (aI ca h0_tuned 40 f_h0_tuned), (o0, .inr (5, [.int o0_jurors, .int o0_floors, .int o0_cases, .int o0_one, .int o0_dent, .int o0_seated, .ref o0_jurorName, .ref o0_floorName, .ref o0_caseName, .ref o0_pitch, .ref o0_length, .ref o0_hands, .ref o0_tune, .ref o0_dull, .ref o0_caseFloor, .ref o0_tuned])), (aJ ca o0_jurorName 10 f_o0_jurorName), (aJ ca o0_floorName 4 f_o0_floorName), (aJ ca o0_caseName 5 f_o0_caseName), (aI ca o0_pitch 10 f_o0_pitch), (aI ca o0_length 10 f_o0_length), (aI ca o0_hands 10 f_o0_hands), (aI ca o0_tune 4 f_o0_tune), (aI ca o0_dull 4 f_o0_dull), (aI ca o0_caseFloor 5 f_o0_caseFloor), (aI ca o0_tuned 40 f_o0_tuned)] := hD
  refine lv_aload_n hx hb dX5_copyFrom_16 rfl (lv_at hl 0 rfl) ?_
  refine lv_aload_n hx hb dX5_copyFrom_17 rfl (lv_at hl 1 rfl) ?_
  refine va_get (D := D) (ci := 5) (v := .int o0_cases) (C := RX5) (T := TX5) (N := 16) hx hb hts k2 hown hK.1 hP 11 rfl rfl 2 (by decide) k4 (fun _ h9 => h9) rfl dX5_copyFrom_18 ?_
  refine va_put (D := D) (ci := 5) (v := .int o0_cases) (ty := .int) (C := RX5) (T := TX5) (N := 16) hx hb hts k2 tyX5 tyX5_ok nmX5 hown hK.1 hP hD hS 0 rfl rfl 2 (by decide) k4 (fun _ h9 => h9) rfl (by decide +kernel) rfl rfl (Nat.le_of_ble_eq_true rfl) dX5_copyFrom_21 (fun H locs hP hD hS => ?_)
  have hP : va_P D vwCl [(h0, .inr (5, [.int o0_jurors, .int o0_floors, .int o0_cases, .int h0_one, .int h0_dent, .int h0_seated, .ref h0_jurorName, .ref h0_floorName, .ref h0_caseName, .ref h0_pitch, .ref h0_length, .ref h0_hands, .ref h0_tune, .ref h0_dull, .ref h0_caseFloor, .ref h0_tuned])), (aJ ca h0_jurorName 10 f_h0_jurorName), (aJ ca h0_floorName 4 f_h0_floorName), (aJ ca h0_caseName 5 f_h0_caseName), (aI ca h0_pitch 10 f_h0_pitch), (aI ca h0_length 10 f_h0_length), (aI ca h0_hands 10 f_h0_hands), (aI ca h0_tune 4 f_h0_tune), (aI ca h0_dull 4 f_h0_dull), (aI ca h0_caseFloor 5 f_h0_caseFloor), (aI ca h0_tuned 40 f_h0_tuned), (o0, .inr (5, [.int o0_jurors, .int o0_floors, .int o0_cases, .int o0_one, .int o0_dent, .int o0_seated, .ref o0_jurorName, .ref o0_floorName, .ref o0_caseName, .ref o0_pitch, .ref o0_length, .ref o0_hands, .ref o0_tune, .ref o0_dull, .ref o0_caseFloor, .ref o0_tuned])), (aJ ca o0_jurorName 10 f_o0_jurorName), (aJ ca o0_floorName 4 f_o0_floorName), (aJ ca o0_caseName 5 f_o0_caseName), (aI ca o0_pitch 10 f_o0_pitch), (aI ca o0_length 10 f_o0_length), (aI ca o0_hands 10 f_o0_hands), (aI ca o0_tune 4 f_o0_tune), (aI ca o0_dull 4 f_o0_dull), (aI ca o0_caseFloor 5 f_o0_caseFloor), (aI ca o0_tuned 40 f_o0_tuned)] H := hP
  have hD : va_D A [(h0, .inr (5, [.int o0_jurors, .int o0_floors, .int o0_cases, .int h0_one, .int h0_dent, .int h0_seated, .ref h0_jurorName, .ref h0_floorName, .ref h0_caseName, .ref h0_pitch, .ref h0_length, .ref h0_hands, .ref h0_tune, .ref h0_dull, .ref h0_caseFloor, .ref h0_tuned])), (aJ ca h0_jurorName 10 f_h0_jurorName), (aJ ca h0_floorName 4 f_h0_floorName), (aJ ca h0_caseName 5 f_h0_caseName), (aI ca h0_pitch 10 f_h0_pitch), (aI ca h0_length 10 f_h0_length), (aI ca h0_hands 10 f_h0_hands), (aI ca h0_tune 4 f_h0_tune), (aI ca h0_dull 4 f_h0_dull), (aI ca h0_caseFloor 5 f_h0_caseFloor), (aI ca h0_tuned 40 f_h0_tuned), (o0, .inr (5, [.int o0_jurors, .int o0_floors, .int o0_cases, .int o0_one, .int o0_dent, .int o0_seated, .ref o0_jurorName, .ref o0_floorName, .ref o0_caseName, .ref o0_pitch, .ref o0_length, .ref o0_hands, .ref o0_tune, .ref o0_dull, .ref o0_caseFloor, .ref o0_tuned])), (aJ ca o0_jurorName 10 f_o0_jurorName), (aJ ca o0_floorName 4 f_o0_floorName), (aJ ca o0_caseName 5 f_o0_caseName), (aI ca o0_pitch 10 f_o0_pitch), (aI ca o0_length 10 f_o0_length), (aI ca o0_hands 10 f_o0_hands), (aI ca o0_tune 4 f_o0_tune), (aI ca o0_dull 4 f_o0_dull), (aI ca o0_caseFloor 5 f_o0_caseFloor), (aI ca o0_tuned 40 f_o0_tuned)] := hD
  refine lv_aload_n hx hb dX5_copyFrom_24 rfl (lv_at hl 0 rfl) ?_
  refine lv_aload_n hx hb dX5_copyFrom_25 rfl (lv_at hl 1 rfl) ?_
  refine va_get (D := D) (ci := 5) (v := .int o0_one) (C := RX5) (T := TX5) (N := 16) hx hb hts k2 hown hK.1 hP 11 rfl rfl 3 (by decide) k5 (fun _ h9 => h9) rfl dX5_copyFrom_26 ?_
  refine va_put (D := D) (ci := 5) (v := .int o0_one) (ty := .int) (C := RX5) (T := TX5) (N := 16) hx hb hts k2 tyX5 tyX5_ok nmX5 hown hK.1 hP hD hS 0 rfl rfl 3 (by decide) k5 (fun _ h9 => h9) rfl (by decide +kernel) rfl rfl (Nat.le_of_ble_eq_true rfl) dX5_copyFrom_29 (fun H locs hP hD hS => ?_)
  have hP : va_P D vwCl [(h0, .inr (5, [.int o0_jurors, .int o0_floors, .int o0_cases, .int o0_one, .int h0_dent, .int h0_seated, .ref h0_jurorName, .ref h0_floorName, .ref h0_caseName, .ref h0_pitch, .ref h0_length, .ref h0_hands, .ref h0_tune, .ref h0_dull, .ref h0_caseFloor, .ref h0_tuned])), (aJ ca h0_jurorName 10 f_h0_jurorName), (aJ ca h0_floorName 4 f_h0_floorName), (aJ ca h0_caseName 5 f_h0_caseName), (aI ca h0_pitch 10 f_h0_pitch), (aI ca h0_length 10 f_h0_length), (aI ca h0_hands 10 f_h0_hands), (aI ca h0_tune 4 f_h0_tune), (aI ca h0_dull 4 f_h0_dull), (aI ca h0_caseFloor 5 f_h0_caseFloor), (aI ca h0_tuned 40 f_h0_tuned), (o0, .inr (5, [.int o0_jurors, .int o0_floors, .int o0_cases, .int o0_one, .int o0_dent, .int o0_seated, .ref o0_jurorName, .ref o0_floorName, .ref o0_caseName, .ref o0_pitch, .ref o0_length, .ref o0_hands, .ref o0_tune, .ref o0_dull, .ref o0_caseFloor, .ref o0_tuned])), (aJ ca o0_jurorName 10 f_o0_jurorName), (aJ ca o0_floorName 4 f_o0_floorName), (aJ ca o0_caseName 5 f_o0_caseName), (aI ca o0_pitch 10 f_o0_pitch), (aI ca o0_length 10 f_o0_length), (aI ca o0_hands 10 f_o0_hands), (aI ca o0_tune 4 f_o0_tune), (aI ca o0_dull 4 f_o0_dull), (aI ca o0_caseFloor 5 f_o0_caseFloor), (aI ca o0_tuned 40 f_o0_tuned)] H := hP
  have hD : va_D A [(h0, .inr (5, [.int o0_jurors, .int o0_floors, .int o0_cases, .int o0_one, .int h0_dent, .int h0_seated, .ref h0_jurorName, .ref h0_floorName, .ref h0_caseName, .ref h0_pitch, .ref h0_length, .ref h0_hands, .ref h0_tune, .ref h0_dull, .ref h0_caseFloor, .ref h0_tuned])), (aJ ca h0_jurorName 10 f_h0_jurorName), (aJ ca h0_floorName 4 f_h0_floorName), (aJ ca h0_caseName 5 f_h0_caseName), (aI ca h0_pitch 10 f_h0_pitch), (aI ca h0_length 10 f_h0_length), (aI ca h0_hands 10 f_h0_hands), (aI ca h0_tune 4 f_h0_tune), (aI ca h0_dull 4 f_h0_dull), (aI ca h0_caseFloor 5 f_h0_caseFloor), (aI ca h0_tuned 40 f_h0_tuned), (o0, .inr (5, [.int o0_jurors, .int o0_floors, .int o0_cases, .int o0_one, .int o0_dent, .int o0_seated, .ref o0_jurorName, .ref o0_floorName, .ref o0_caseName, .ref o0_pitch, .ref o0_length, .ref o0_hands, .ref o0_tune, .ref o0_dull, .ref o0_caseFloor, .ref o0_tuned])), (aJ ca o0_jurorName 10 f_o0_jurorName), (aJ ca o0_floorName 4 f_o0_floorName), (aJ ca o0_caseName 5 f_o0_caseName), (aI ca o0_pitch 10 f_o0_pitch), (aI ca o0_length 10 f_o0_length), (aI ca o0_hands 10 f_o0_hands), (aI ca o0_tune 4 f_o0_tune), (aI ca o0_dull 4 f_o0_dull), (aI ca o0_caseFloor 5 f_o0_caseFloor), (aI ca o0_tuned 40 f_o0_tuned)] := hD
  refine lv_aload_n hx hb dX5_copyFrom_32 rfl (lv_at hl 0 rfl) ?_
  refine lv_aload_n hx hb dX5_copyFrom_33 rfl (lv_at hl 1 rfl) ?_
  refine va_get (D := D) (ci := 5) (v := .int o0_dent) (C := RX5) (T := TX5) (N := 16) hx hb hts k2 hown hK.1 hP 11 rfl rfl 4 (by decide) k6 (fun _ h9 => h9) rfl dX5_copyFrom_34 ?_
  refine va_put (D := D) (ci := 5) (v := .int o0_dent) (ty := .int) (C := RX5) (T := TX5) (N := 16) hx hb hts k2 tyX5 tyX5_ok nmX5 hown hK.1 hP hD hS 0 rfl rfl 4 (by decide) k6 (fun _ h9 => h9) rfl (by decide +kernel) rfl rfl (Nat.le_of_ble_eq_true rfl) dX5_copyFrom_37 (fun H locs hP hD hS => ?_)
  have hP : va_P D vwCl [(h0, .inr (5, [.int o0_jurors, .int o0_floors, .int o0_cases, .int o0_one, .int o0_dent, .int h0_seated, .ref h0_jurorName, .ref h0_floorName, .ref h0_caseName, .ref h0_pitch, .ref h0_length, .ref h0_hands, .ref h0_tune, .ref h0_dull, .ref h0_caseFloor, .ref h0_tuned])), (aJ ca h0_jurorName 10 f_h0_jurorName), (aJ ca h0_floorName 4 f_h0_floorName), (aJ ca h0_caseName 5 f_h0_caseName), (aI ca h0_pitch 10 f_h0_pitch), (aI ca h0_length 10 f_h0_length), (aI ca h0_hands 10 f_h0_hands), (aI ca h0_tune 4 f_h0_tune), (aI ca h0_dull 4 f_h0_dull), (aI ca h0_caseFloor 5 f_h0_caseFloor), (aI ca h0_tuned 40 f_h0_tuned), (o0, .inr (5, [.int o0_jurors, .int o0_floors, .int o0_cases, .int o0_one, .int o0_dent, .int o0_seated, .ref o0_jurorName, .ref o0_floorName, .ref o0_caseName, .ref o0_pitch, .ref o0_length, .ref o0_hands, .ref o0_tune, .ref o0_dull, .ref o0_caseFloor, .ref o0_tuned])), (aJ ca o0_jurorName 10 f_o0_jurorName), (aJ ca o0_floorName 4 f_o0_floorName), (aJ ca o0_caseName 5 f_o0_caseName), (aI ca o0_pitch 10 f_o0_pitch), (aI ca o0_length 10 f_o0_length), (aI ca o0_hands 10 f_o0_hands), (aI ca o0_tune 4 f_o0_tune), (aI ca o0_dull 4 f_o0_dull), (aI ca o0_caseFloor 5 f_o0_caseFloor), (aI ca o0_tuned 40 f_o0_tuned)] H := hP
  have hD : va_D A [(h0, .inr (5, [.int o0_jurors, .int o0_floors, .int o0_cases, .int o0_one, .int o0_dent, .int h0_seated, .ref h0_jurorName, .ref h0_floorName, .ref h0_caseName, .ref h0_pitch, .ref h0_length, .ref h0_hands, .ref h0_tune, .ref h0_dull, .ref h0_caseFloor, .ref h0_tuned])), (aJ ca h0_jurorName 10 f_h0_jurorName), (aJ ca h0_floorName 4 f_h0_floorName), (aJ ca h0_caseName 5 f_h0_caseName), (aI ca h0_pitch 10 f_h0_pitch), (aI ca h0_length 10 f_h0_length), (aI ca h0_hands 10 f_h0_hands), (aI ca h0_tune 4 f_h0_tune), (aI ca h0_dull 4 f_h0_dull), (aI ca h0_caseFloor 5 f_h0_caseFloor), (aI ca h0_tuned 40 f_h0_tuned), (o0, .inr (5, [.int o0_jurors, .int o0_floors, .int o0_cases, .int o0_one, .int o0_dent, .int o0_seated, .ref o0_jurorName, .ref o0_floorName, .ref o0_caseName, .ref o0_pitch, .ref o0_length, .ref o0_hands, .ref o0_tune, .ref o0_dull, .ref o0_caseFloor, .ref o0_tuned])), (aJ ca o0_jurorName 10 f_o0_jurorName), (aJ ca o0_floorName 4 f_o0_floorName), (aJ ca o0_caseName 5 f_o0_caseName), (aI ca o0_pitch 10 f_o0_pitch), (aI ca o0_length 10 f_o0_length), (aI ca o0_hands 10 f_o0_hands), (aI ca o0_tune 4 f_o0_tune), (aI ca o0_dull 4 f_o0_dull), (aI ca o0_caseFloor 5 f_o0_caseFloor), (aI ca o0_tuned 40 f_o0_tuned)] := hD
  refine lv_aload_n hx hb dX5_copyFrom_40 rfl (lv_at hl 0 rfl) ?_
  refine lv_aload_n hx hb dX5_copyFrom_41 rfl (lv_at hl 1 rfl) ?_
  refine va_get (D := D) (ci := 5) (v := .int o0_seated) (C := RX5) (T := TX5) (N := 16) hx hb hts k2 hown hK.1 hP 11 rfl rfl 5 (by decide) k7 (fun _ h9 => h9) rfl dX5_copyFrom_42 ?_
  refine va_put (D := D) (ci := 5) (v := .int o0_seated) (ty := .int) (C := RX5) (T := TX5) (N := 16) hx hb hts k2 tyX5 tyX5_ok nmX5 hown hK.1 hP hD hS 0 rfl rfl 5 (by decide) k7 (fun _ h9 => h9) rfl (by decide +kernel) rfl rfl (Nat.le_of_ble_eq_true rfl) dX5_copyFrom_45 (fun H locs hP hD hS => ?_)
  have hP : va_P D vwCl [(h0, .inr (5, [.int o0_jurors, .int o0_floors, .int o0_cases, .int o0_one, .int o0_dent, .int o0_seated, .ref h0_jurorName, .ref h0_floorName, .ref h0_caseName, .ref h0_pitch, .ref h0_length, .ref h0_hands, .ref h0_tune, .ref h0_dull, .ref h0_caseFloor, .ref h0_tuned])), (aJ ca h0_jurorName 10 f_h0_jurorName), (aJ ca h0_floorName 4 f_h0_floorName), (aJ ca h0_caseName 5 f_h0_caseName), (aI ca h0_pitch 10 f_h0_pitch), (aI ca h0_length 10 f_h0_length), (aI ca h0_hands 10 f_h0_hands), (aI ca h0_tune 4 f_h0_tune), (aI ca h0_dull 4 f_h0_dull), (aI ca h0_caseFloor 5 f_h0_caseFloor), (aI ca h0_tuned 40 f_h0_tuned), (o0, .inr (5, [.int o0_jurors, .int o0_floors, .int o0_cases, .int o0_one, .int o0_dent, .int o0_seated, .ref o0_jurorName, .ref o0_floorName, .ref o0_caseName, .ref o0_pitch, .ref o0_length, .ref o0_hands, .ref o0_tune, .ref o0_dull, .ref o0_caseFloor, .ref o0_tuned])), (aJ ca o0_jurorName 10 f_o0_jurorName), (aJ ca o0_floorName 4 f_o0_floorName), (aJ ca o0_caseName 5 f_o0_caseName), (aI ca o0_pitch 10 f_o0_pitch), (aI ca o0_length 10 f_o0_length), (aI ca o0_hands 10 f_o0_hands), (aI ca o0_tune 4 f_o0_tune), (aI ca o0_dull 4 f_o0_dull), (aI ca o0_caseFloor 5 f_o0_caseFloor), (aI ca o0_tuned 40 f_o0_tuned)] H := hP
  have hD : va_D A [(h0, .inr (5, [.int o0_jurors, .int o0_floors, .int o0_cases, .int o0_one, .int o0_dent, .int o0_seated, .ref h0_jurorName, .ref h0_floorName, .ref h0_caseName, .ref h0_pitch, .ref h0_length, .ref h0_hands, .ref h0_tune, .ref h0_dull, .ref h0_caseFloor, .ref h0_tuned])), (aJ ca h0_jurorName 10 f_h0_jurorName), (aJ ca h0_floorName 4 f_h0_floorName), (aJ ca h0_caseName 5 f_h0_caseName), (aI ca h0_pitch 10 f_h0_pitch), (aI ca h0_length 10 f_h0_length), (aI ca h0_hands 10 f_h0_hands), (aI ca h0_tune 4 f_h0_tune), (aI ca h0_dull 4 f_h0_dull), (aI ca h0_caseFloor 5 f_h0_caseFloor), (aI ca h0_tuned 40 f_h0_tuned), (o0, .inr (5, [.int o0_jurors, .int o0_floors, .int o0_cases, .int o0_one, .int o0_dent, .int o0_seated, .ref o0_jurorName, .ref o0_floorName, .ref o0_caseName, .ref o0_pitch, .ref o0_length, .ref o0_hands, .ref o0_tune, .ref o0_dull, .ref o0_caseFloor, .ref o0_tuned])), (aJ ca o0_jurorName 10 f_o0_jurorName), (aJ ca o0_floorName 4 f_o0_floorName), (aJ ca o0_caseName 5 f_o0_caseName), (aI ca o0_pitch 10 f_o0_pitch), (aI ca o0_length 10 f_o0_length), (aI ca o0_hands 10 f_o0_hands), (aI ca o0_tune 4 f_o0_tune), (aI ca o0_dull 4 f_o0_dull), (aI ca o0_caseFloor 5 f_o0_caseFloor), (aI ca o0_tuned 40 f_o0_tuned)] := hD
  refine lv_aload_n hx hb dX5_copyFrom_48 rfl (lv_at hl 1 rfl) ?_
  refine va_get (D := D) (ci := 5) (v := .ref o0_jurorName) (C := RX5) (T := TX5) (N := 16) hx hb hts k2 hown hK.1 hP 11 rfl rfl 6 (by decide) k8 (fun _ h9 => h9) rfl dX5_copyFrom_49 ?_
  refine lv_iconst (v := 0) hx hb dX5_copyFrom_52 (by decide) ?_
  refine lv_aload_n hx hb dX5_copyFrom_53 rfl (lv_at hl 0 rfl) ?_
  refine va_get (D := D) (ci := 5) (v := .ref h0_jurorName) (C := RX5) (T := TX5) (N := 16) hx hb hts k2 hown hK.1 hP 0 rfl rfl 6 (by decide) k8 (fun _ h9 => h9) rfl dX5_copyFrom_54 ?_
  refine lv_iconst (v := 0) hx hb dX5_copyFrom_57 (by decide) ?_
  refine lv_bipush (v := 10) hx hb dX5_copyFrom_58 (by decide) ?_
  refine va_copyl hx hb (by rw [hml]; exact hl.1.symm) hown k9 k10 k11 k12 hK.1 hP hD hS 12 1 1 1 rfl rfl rfl rfl rfl (by decide) (by decide) (by decide) (Nat.le_of_ble_eq_true rfl) (Nat.le_of_ble_eq_true rfl) (fun _ _ => rfl) (Nat.le_of_ble_eq_true rfl) (Nat.le_of_ble_eq_true rfl) dX5_copyFrom_60 (fun H locs hP hD hS => ?_)
  obtain ⟨g_1, eg_1⟩ : ∃ y : Nat → Int64, y = va_cpy f_o0_jurorName f_h0_jurorName (0 : Int32).toNatClampNeg (0 : Int32).toNatClampNeg (10 : Int32).toNatClampNeg := ⟨_, rfl⟩
  rw [← eg_1] at hP hD
  have hP : va_P D vwCl [(h0, .inr (5, [.int o0_jurors, .int o0_floors, .int o0_cases, .int o0_one, .int o0_dent, .int o0_seated, .ref h0_jurorName, .ref h0_floorName, .ref h0_caseName, .ref h0_pitch, .ref h0_length, .ref h0_hands, .ref h0_tune, .ref h0_dull, .ref h0_caseFloor, .ref h0_tuned])), (aJ ca h0_jurorName 10 g_1), (aJ ca h0_floorName 4 f_h0_floorName), (aJ ca h0_caseName 5 f_h0_caseName), (aI ca h0_pitch 10 f_h0_pitch), (aI ca h0_length 10 f_h0_length), (aI ca h0_hands 10 f_h0_hands), (aI ca h0_tune 4 f_h0_tune), (aI ca h0_dull 4 f_h0_dull), (aI ca h0_caseFloor 5 f_h0_caseFloor), (aI ca h0_tuned 40 f_h0_tuned), (o0, .inr (5, [.int o0_jurors, .int o0_floors, .int o0_cases, .int o0_one, .int o0_dent, .int o0_seated, .ref o0_jurorName, .ref o0_floorName, .ref o0_caseName, .ref o0_pitch, .ref o0_length, .ref o0_hands, .ref o0_tune, .ref o0_dull, .ref o0_caseFloor, .ref o0_tuned])), (aJ ca o0_jurorName 10 f_o0_jurorName), (aJ ca o0_floorName 4 f_o0_floorName), (aJ ca o0_caseName 5 f_o0_caseName), (aI ca o0_pitch 10 f_o0_pitch), (aI ca o0_length 10 f_o0_length), (aI ca o0_hands 10 f_o0_hands), (aI ca o0_tune 4 f_o0_tune), (aI ca o0_dull 4 f_o0_dull), (aI ca o0_caseFloor 5 f_o0_caseFloor), (aI ca o0_tuned 40 f_o0_tuned)] H := hP
  have hD : va_D A [(h0, .inr (5, [.int o0_jurors, .int o0_floors, .int o0_cases, .int o0_one, .int o0_dent, .int o0_seated, .ref h0_jurorName, .ref h0_floorName, .ref h0_caseName, .ref h0_pitch, .ref h0_length, .ref h0_hands, .ref h0_tune, .ref h0_dull, .ref h0_caseFloor, .ref h0_tuned])), (aJ ca h0_jurorName 10 g_1), (aJ ca h0_floorName 4 f_h0_floorName), (aJ ca h0_caseName 5 f_h0_caseName), (aI ca h0_pitch 10 f_h0_pitch), (aI ca h0_length 10 f_h0_length), (aI ca h0_hands 10 f_h0_hands), (aI ca h0_tune 4 f_h0_tune), (aI ca h0_dull 4 f_h0_dull), (aI ca h0_caseFloor 5 f_h0_caseFloor), (aI ca h0_tuned 40 f_h0_tuned), (o0, .inr (5, [.int o0_jurors, .int o0_floors, .int o0_cases, .int o0_one, .int o0_dent, .int o0_seated, .ref o0_jurorName, .ref o0_floorName, .ref o0_caseName, .ref o0_pitch, .ref o0_length, .ref o0_hands, .ref o0_tune, .ref o0_dull, .ref o0_caseFloor, .ref o0_tuned])), (aJ ca o0_jurorName 10 f_o0_jurorName), (aJ ca o0_floorName 4 f_o0_floorName), (aJ ca o0_caseName 5 f_o0_caseName), (aI ca o0_pitch 10 f_o0_pitch), (aI ca o0_length 10 f_o0_length), (aI ca o0_hands 10 f_o0_hands), (aI ca o0_tune 4 f_o0_tune), (aI ca o0_dull 4 f_o0_dull), (aI ca o0_caseFloor 5 f_o0_caseFloor), (aI ca o0_tuned 40 f_o0_tuned)] := hD
  refine lv_aload_n hx hb dX5_copyFrom_63 rfl (lv_at hl 1 rfl) ?_
  refine va_get (D := D) (ci := 5) (v := .ref o0_floorName) (C := RX5) (T := TX5) (N := 16) hx hb hts k2 hown hK.1 hP 11 rfl rfl 7 (by decide) k13 (fun _ h9 => h9) rfl dX5_copyFrom_64 ?_
  refine lv_iconst (v := 0) hx hb dX5_copyFrom_67 (by decide) ?_
  refine lv_aload_n hx hb dX5_copyFrom_68 rfl (lv_at hl 0 rfl) ?_
  refine va_get (D := D) (ci := 5) (v := .ref h0_floorName) (C := RX5) (T := TX5) (N := 16) hx hb hts k2 hown hK.1 hP 0 rfl rfl 7 (by decide) k13 (fun _ h9 => h9) rfl dX5_copyFrom_69 ?_
  refine lv_iconst (v := 0) hx hb dX5_copyFrom_72 (by decide) ?_
  refine lv_iconst (v := 4) hx hb dX5_copyFrom_73 (by decide) ?_
  refine va_copyl hx hb (by rw [hml]; exact hl.1.symm) hown k9 k10 k11 k12 hK.1 hP hD hS 13 2 1 1 rfl rfl rfl rfl rfl (by decide) (by decide) (by decide) (Nat.le_of_ble_eq_true rfl) (Nat.le_of_ble_eq_true rfl) (fun _ _ => rfl) (Nat.le_of_ble_eq_true rfl) (Nat.le_of_ble_eq_true rfl) dX5_copyFrom_74 (fun H locs hP hD hS => ?_)
  obtain ⟨g_2, eg_2⟩ : ∃ y : Nat → Int64, y = va_cpy f_o0_floorName f_h0_floorName (0 : Int32).toNatClampNeg (0 : Int32).toNatClampNeg (4 : Int32).toNatClampNeg := ⟨_, rfl⟩
  rw [← eg_2] at hP hD
  have hP : va_P D vwCl [(h0, .inr (5, [.int o0_jurors, .int o0_floors, .int o0_cases, .int o0_one, .int o0_dent, .int o0_seated, .ref h0_jurorName, .ref h0_floorName, .ref h0_caseName, .ref h0_pitch, .ref h0_length, .ref h0_hands, .ref h0_tune, .ref h0_dull, .ref h0_caseFloor, .ref h0_tuned])), (aJ ca h0_jurorName 10 g_1), (aJ ca h0_floorName 4 g_2), (aJ ca h0_caseName 5 f_h0_caseName), (aI ca h0_pitch 10 f_h0_pitch), (aI ca h0_length 10 f_h0_length), (aI ca h0_hands 10 f_h0_hands), (aI ca h0_tune 4 f_h0_tune), (aI ca h0_dull 4 f_h0_dull), (aI ca h0_caseFloor 5 f_h0_caseFloor), (aI ca h0_tuned 40 f_h0_tuned), (o0, .inr (5, [.int o0_jurors, .int o0_floors, .int o0_cases, .int o0_one, .int o0_dent, .int o0_seated, .ref o0_jurorName, .ref o0_floorName, .ref o0_caseName, .ref o0_pitch, .ref o0_length, .ref o0_hands, .ref o0_tune, .ref o0_dull, .ref o0_caseFloor, .ref o0_tuned])), (aJ ca o0_jurorName 10 f_o0_jurorName), (aJ ca o0_floorName 4 f_o0_floorName), (aJ ca o0_caseName 5 f_o0_caseName), (aI ca o0_pitch 10 f_o0_pitch), (aI ca o0_length 10 f_o0_length), (aI ca o0_hands 10 f_o0_hands), (aI ca o0_tune 4 f_o0_tune), (aI ca o0_dull 4 f_o0_dull), (aI ca o0_caseFloor 5 f_o0_caseFloor), (aI ca o0_tuned 40 f_o0_tuned)] H := hP
  have hD : va_D A [(h0, .inr (5, [.int o0_jurors, .int o0_floors, .int o0_cases, .int o0_one, .int o0_dent, .int o0_seated, .ref h0_jurorName, .ref h0_floorName, .ref h0_caseName, .ref h0_pitch, .ref h0_length, .ref h0_hands, .ref h0_tune, .ref h0_dull, .ref h0_caseFloor, .ref h0_tuned])), (aJ ca h0_jurorName 10 g_1), (aJ ca h0_floorName 4 g_2), (aJ ca h0_caseName 5 f_h0_caseName), (aI ca h0_pitch 10 f_h0_pitch), (aI ca h0_length 10 f_h0_length), (aI ca h0_hands 10 f_h0_hands), (aI ca h0_tune 4 f_h0_tune), (aI ca h0_dull 4 f_h0_dull), (aI ca h0_caseFloor 5 f_h0_caseFloor), (aI ca h0_tuned 40 f_h0_tuned), (o0, .inr (5, [.int o0_jurors, .int o0_floors, .int o0_cases, .int o0_one, .int o0_dent, .int o0_seated, .ref o0_jurorName, .ref o0_floorName, .ref o0_caseName, .ref o0_pitch, .ref o0_length, .ref o0_hands, .ref o0_tune, .ref o0_dull, .ref o0_caseFloor, .ref o0_tuned])), (aJ ca o0_jurorName 10 f_o0_jurorName), (aJ ca o0_floorName 4 f_o0_floorName), (aJ ca o0_caseName 5 f_o0_caseName), (aI ca o0_pitch 10 f_o0_pitch), (aI ca o0_length 10 f_o0_length), (aI ca o0_hands 10 f_o0_hands), (aI ca o0_tune 4 f_o0_tune), (aI ca o0_dull 4 f_o0_dull), (aI ca o0_caseFloor 5 f_o0_caseFloor), (aI ca o0_tuned 40 f_o0_tuned)] := hD
  refine lv_aload_n hx hb dX5_copyFrom_77 rfl (lv_at hl 1 rfl) ?_
  refine va_get (D := D) (ci := 5) (v := .ref o0_caseName) (C := RX5) (T := TX5) (N := 16) hx hb hts k2 hown hK.1 hP 11 rfl rfl 8 (by decide) k14 (fun _ h9 => h9) rfl dX5_copyFrom_78 ?_
  refine lv_iconst (v := 0) hx hb dX5_copyFrom_81 (by decide) ?_
  refine lv_aload_n hx hb dX5_copyFrom_82 rfl (lv_at hl 0 rfl) ?_
  refine va_get (D := D) (ci := 5) (v := .ref h0_caseName) (C := RX5) (T := TX5) (N := 16) hx hb hts k2 hown hK.1 hP 0 rfl rfl 8 (by decide) k14 (fun _ h9 => h9) rfl dX5_copyFrom_83 ?_
  refine lv_iconst (v := 0) hx hb dX5_copyFrom_86 (by decide) ?_
  refine lv_iconst (v := 5) hx hb dX5_copyFrom_87 (by decide) ?_
  refine va_copyl hx hb (by rw [hml]; exact hl.1.symm) hown k9 k10 k11 k12 hK.1 hP hD hS 14 3 1 1 rfl rfl rfl rfl rfl (by decide) (by decide) (by decide) (Nat.le_of_ble_eq_true rfl) (Nat.le_of_ble_eq_true rfl) (fun _ _ => rfl) (Nat.le_of_ble_eq_true rfl) (Nat.le_of_ble_eq_true rfl) dX5_copyFrom_88 (fun H locs hP hD hS => ?_)
  obtain ⟨g_3, eg_3⟩ : ∃ y : Nat → Int64, y = va_cpy f_o0_caseName f_h0_caseName (0 : Int32).toNatClampNeg (0 : Int32).toNatClampNeg (5 : Int32).toNatClampNeg := ⟨_, rfl⟩
  rw [← eg_3] at hP hD
  have hP : va_P D vwCl [(h0, .inr (5, [.int o0_jurors, .int o0_floors, .int o0_cases, .int o0_one, .int o0_dent, .int o0_seated, .ref h0_jurorName, .ref h0_floorName, .ref h0_caseName, .ref h0_pitch, .ref h0_length, .ref h0_hands, .ref h0_tune, .ref h0_dull, .ref h0_caseFloor, .ref h0_tuned])), (aJ ca h0_jurorName 10 g_1), (aJ ca h0_floorName 4 g_2), (aJ ca h0_caseName 5 g_3), (aI ca h0_pitch 10 f_h0_pitch), (aI ca h0_length 10 f_h0_length), (aI ca h0_hands 10 f_h0_hands), (aI ca h0_tune 4 f_h0_tune), (aI ca h0_dull 4 f_h0_dull), (aI ca h0_caseFloor 5 f_h0_caseFloor), (aI ca h0_tuned 40 f_h0_tuned), (o0, .inr (5, [.int o0_jurors, .int o0_floors, .int o0_cases, .int o0_one, .int o0_dent, .int o0_seated, .ref o0_jurorName, .ref o0_floorName, .ref o0_caseName, .ref o0_pitch, .ref o0_length, .ref o0_hands, .ref o0_tune, .ref o0_dull, .ref o0_caseFloor, .ref o0_tuned])), (aJ ca o0_jurorName 10 f_o0_jurorName), (aJ ca o0_floorName 4 f_o0_floorName), (aJ ca o0_caseName 5 f_o0_caseName), (aI ca o0_pitch 10 f_o0_pitch), (aI ca o0_length 10 f_o0_length), (aI ca o0_hands 10 f_o0_hands), (aI ca o0_tune 4 f_o0_tune), (aI ca o0_dull 4 f_o0_dull), (aI ca o0_caseFloor 5 f_o0_caseFloor), (aI ca o0_tuned 40 f_o0_tuned)] H := hP
  have hD : va_D A [(h0, .inr (5, [.int o0_jurors, .int o0_floors, .int o0_cases, .int o0_one, .int o0_dent, .int o0_seated, .ref h0_jurorName, .ref h0_floorName, .ref h0_caseName, .ref h0_pitch, .ref h0_length, .ref h0_hands, .ref h0_tune, .ref h0_dull, .ref h0_caseFloor, .ref h0_tuned])), (aJ ca h0_jurorName 10 g_1), (aJ ca h0_floorName 4 g_2), (aJ ca h0_caseName 5 g_3), (aI ca h0_pitch 10 f_h0_pitch), (aI ca h0_length 10 f_h0_length), (aI ca h0_hands 10 f_h0_hands), (aI ca h0_tune 4 f_h0_tune), (aI ca h0_dull 4 f_h0_dull), (aI ca h0_caseFloor 5 f_h0_caseFloor), (aI ca h0_tuned 40 f_h0_tuned), (o0, .inr (5, [.int o0_jurors, .int o0_floors, .int o0_cases, .int o0_one, .int o0_dent, .int o0_seated, .ref o0_jurorName, .ref o0_floorName, .ref o0_caseName, .ref o0_pitch, .ref o0_length, .ref o0_hands, .ref o0_tune, .ref o0_dull, .ref o0_caseFloor, .ref o0_tuned])), (aJ ca o0_jurorName 10 f_o0_jurorName), (aJ ca o0_floorName 4 f_o0_floorName), (aJ ca o0_caseName 5 f_o0_caseName), (aI ca o0_pitch 10 f_o0_pitch), (aI ca o0_length 10 f_o0_length), (aI ca o0_hands 10 f_o0_hands), (aI ca o0_tune 4 f_o0_tune), (aI ca o0_dull 4 f_o0_dull), (aI ca o0_caseFloor 5 f_o0_caseFloor), (aI ca o0_tuned 40 f_o0_tuned)] := hD
  refine lv_aload_n hx hb dX5_copyFrom_91 rfl (lv_at hl 1 rfl) ?_
  refine va_get (D := D) (ci := 5) (v := .ref o0_pitch) (C := RX5) (T := TX5) (N := 16) hx hb hts k2 hown hK.1 hP 11 rfl rfl 9 (by decide) k15 (fun _ h9 => h9) rfl dX5_copyFrom_92 ?_
  refine lv_iconst (v := 0) hx hb dX5_copyFrom_95 (by decide) ?_
  refine lv_aload_n hx hb dX5_copyFrom_96 rfl (lv_at hl 0 rfl) ?_
  refine va_get (D := D) (ci := 5) (v := .ref h0_pitch) (C := RX5) (T := TX5) (N := 16) hx hb hts k2 hown hK.1 hP 0 rfl rfl 9 (by decide) k15 (fun _ h9 => h9) rfl dX5_copyFrom_97 ?_
  refine lv_iconst (v := 0) hx hb dX5_copyFrom_100 (by decide) ?_
  refine lv_bipush (v := 10) hx hb dX5_copyFrom_101 (by decide) ?_
  refine va_copyi hx hb (by rw [hml]; exact hl.1.symm) hown k9 k10 k11 k12 hK.1 hP hD hS 15 4 0 0 rfl rfl rfl rfl rfl (by decide) (by decide) (by decide) (Nat.le_of_ble_eq_true rfl) (Nat.le_of_ble_eq_true rfl) (fun _ _ => rfl) (Nat.le_of_ble_eq_true rfl) (Nat.le_of_ble_eq_true rfl) dX5_copyFrom_103 (fun H locs hP hD hS => ?_)
  obtain ⟨g_4, eg_4⟩ : ∃ y : Nat → Int32, y = va_cpy f_o0_pitch f_h0_pitch (0 : Int32).toNatClampNeg (0 : Int32).toNatClampNeg (10 : Int32).toNatClampNeg := ⟨_, rfl⟩
  rw [← eg_4] at hP hD
  have hP : va_P D vwCl [(h0, .inr (5, [.int o0_jurors, .int o0_floors, .int o0_cases, .int o0_one, .int o0_dent, .int o0_seated, .ref h0_jurorName, .ref h0_floorName, .ref h0_caseName, .ref h0_pitch, .ref h0_length, .ref h0_hands, .ref h0_tune, .ref h0_dull, .ref h0_caseFloor, .ref h0_tuned])), (aJ ca h0_jurorName 10 g_1), (aJ ca h0_floorName 4 g_2), (aJ ca h0_caseName 5 g_3), (aI ca h0_pitch 10 g_4), (aI ca h0_length 10 f_h0_length), (aI ca h0_hands 10 f_h0_hands), (aI ca h0_tune 4 f_h0_tune), (aI ca h0_dull 4 f_h0_dull), (aI ca h0_caseFloor 5 f_h0_caseFloor), (aI ca h0_tuned 40 f_h0_tuned), (o0, .inr (5, [.int o0_jurors, .int o0_floors, .int o0_cases, .int o0_one, .int o0_dent, .int o0_seated, .ref o0_jurorName, .ref o0_floorName, .ref o0_caseName, .ref o0_pitch, .ref o0_length, .ref o0_hands, .ref o0_tune, .ref o0_dull, .ref o0_caseFloor, .ref o0_tuned])), (aJ ca o0_jurorName 10 f_o0_jurorName), (aJ ca o0_floorName 4 f_o0_floorName), (aJ ca o0_caseName 5 f_o0_caseName), (aI ca o0_pitch 10 f_o0_pitch), (aI ca o0_length 10 f_o0_length), (aI ca o0_hands 10 f_o0_hands), (aI ca o0_tune 4 f_o0_tune), (aI ca o0_dull 4 f_o0_dull), (aI ca o0_caseFloor 5 f_o0_caseFloor), (aI ca o0_tuned 40 f_o0_tuned)] H := hP
  have hD : va_D A [(h0, .inr (5, [.int o0_jurors, .int o0_floors, .int o0_cases, .int o0_one, .int o0_dent, .int o0_seated, .ref h0_jurorName, .ref h0_floorName, .ref h0_caseName, .ref h0_pitch, .ref h0_length, .ref h0_hands, .ref h0_tune, .ref h0_dull, .ref h0_caseFloor, .ref h0_tuned])), (aJ ca h0_jurorName 10 g_1), (aJ ca h0_floorName 4 g_2), (aJ ca h0_caseName 5 g_3), (aI ca h0_pitch 10 g_4), (aI ca h0_length 10 f_h0_length), (aI ca h0_hands 10 f_h0_hands), (aI ca h0_tune 4 f_h0_tune), (aI ca h0_dull 4 f_h0_dull), (aI ca h0_caseFloor 5 f_h0_caseFloor), (aI ca h0_tuned 40 f_h0_tuned), (o0, .inr (5, [.int o0_jurors, .int o0_floors, .int o0_cases, .int o0_one, .int o0_dent, .int o0_seated, .ref o0_jurorName, .ref o0_floorName, .ref o0_caseName, .ref o0_pitch, .ref o0_length, .ref o0_hands, .ref o0_tune, .ref o0_dull, .ref o0_caseFloor, .ref o0_tuned])), (aJ ca o0_jurorName 10 f_o0_jurorName), (aJ ca o0_floorName 4 f_o0_floorName), (aJ ca o0_caseName 5 f_o0_caseName), (aI ca o0_pitch 10 f_o0_pitch), (aI ca o0_length 10 f_o0_length), (aI ca o0_hands 10 f_o0_hands), (aI ca o0_tune 4 f_o0_tune), (aI ca o0_dull 4 f_o0_dull), (aI ca o0_caseFloor 5 f_o0_caseFloor), (aI ca o0_tuned 40 f_o0_tuned)] := hD
  refine lv_aload_n hx hb dX5_copyFrom_106 rfl (lv_at hl 1 rfl) ?_
  refine va_get (D := D) (ci := 5) (v := .ref o0_length) (C := RX5) (T := TX5) (N := 16) hx hb hts k2 hown hK.1 hP 11 rfl rfl 10 (by decide) k16 (fun _ h9 => h9) rfl dX5_copyFrom_107 ?_
  refine lv_iconst (v := 0) hx hb dX5_copyFrom_110 (by decide) ?_
  refine lv_aload_n hx hb dX5_copyFrom_111 rfl (lv_at hl 0 rfl) ?_
  refine va_get (D := D) (ci := 5) (v := .ref h0_length) (C := RX5) (T := TX5) (N := 16) hx hb hts k2 hown hK.1 hP 0 rfl rfl 10 (by decide) k16 (fun _ h9 => h9) rfl dX5_copyFrom_112 ?_
  refine lv_iconst (v := 0) hx hb dX5_copyFrom_115 (by decide) ?_
  refine lv_bipush (v := 10) hx hb dX5_copyFrom_116 (by decide) ?_
  refine va_copyi hx hb (by rw [hml]; exact hl.1.symm) hown k9 k10 k11 k12 hK.1 hP hD hS 16 5 0 0 rfl rfl rfl rfl rfl (by decide) (by decide) (by decide) (Nat.le_of_ble_eq_true rfl) (Nat.le_of_ble_eq_true rfl) (fun _ _ => rfl) (Nat.le_of_ble_eq_true rfl) (Nat.le_of_ble_eq_true rfl) dX5_copyFrom_118 (fun H locs hP hD hS => ?_)
  obtain ⟨g_5, eg_5⟩ : ∃ y : Nat → Int32, y = va_cpy f_o0_length f_h0_length (0 : Int32).toNatClampNeg (0 : Int32).toNatClampNeg (10 : Int32).toNatClampNeg := ⟨_, rfl⟩
  rw [← eg_5] at hP hD
  have hP : va_P D vwCl [(h0, .inr (5, [.int o0_jurors, .int o0_floors, .int o0_cases, .int o0_one, .int o0_dent, .int o0_seated, .ref h0_jurorName, .ref h0_floorName, .ref h0_caseName, .ref h0_pitch, .ref h0_length, .ref h0_hands, .ref h0_tune, .ref h0_dull, .ref h0_caseFloor, .ref h0_tuned])), (aJ ca h0_jurorName 10 g_1), (aJ ca h0_floorName 4 g_2), (aJ ca h0_caseName 5 g_3), (aI ca h0_pitch 10 g_4), (aI ca h0_length 10 g_5), (aI ca h0_hands 10 f_h0_hands), (aI ca h0_tune 4 f_h0_tune), (aI ca h0_dull 4 f_h0_dull), (aI ca h0_caseFloor 5 f_h0_caseFloor), (aI ca h0_tuned 40 f_h0_tuned), (o0, .inr (5, [.int o0_jurors, .int o0_floors, .int o0_cases, .int o0_one, .int o0_dent, .int o0_seated, .ref o0_jurorName, .ref o0_floorName, .ref o0_caseName, .ref o0_pitch, .ref o0_length, .ref o0_hands, .ref o0_tune, .ref o0_dull, .ref o0_caseFloor, .ref o0_tuned])), (aJ ca o0_jurorName 10 f_o0_jurorName), (aJ ca o0_floorName 4 f_o0_floorName), (aJ ca o0_caseName 5 f_o0_caseName), (aI ca o0_pitch 10 f_o0_pitch), (aI ca o0_length 10 f_o0_length), (aI ca o0_hands 10 f_o0_hands), (aI ca o0_tune 4 f_o0_tune), (aI ca o0_dull 4 f_o0_dull), (aI ca o0_caseFloor 5 f_o0_caseFloor), (aI ca o0_tuned 40 f_o0_tuned)] H := hP
  have hD : va_D A [(h0, .inr (5, [.int o0_jurors, .int o0_floors, .int o0_cases, .int o0_one, .int o0_dent, .int o0_seated, .ref h0_jurorName, .ref h0_floorName, .ref h0_caseName, .ref h0_pitch, .ref h0_length, .ref h0_hands, .ref h0_tune, .ref h0_dull, .ref h0_caseFloor, .ref h0_tuned])), (aJ ca h0_jurorName 10 g_1), (aJ ca h0_floorName 4 g_2), (aJ ca h0_caseName 5 g_3), (aI ca h0_pitch 10 g_4), (aI ca h0_length 10 g_5), (aI ca h0_hands 10 f_h0_hands), (aI ca h0_tune 4 f_h0_tune), (aI ca h0_dull 4 f_h0_dull), (aI ca h0_caseFloor 5 f_h0_caseFloor), (aI ca h0_tuned 40 f_h0_tuned), (o0, .inr (5, [.int o0_jurors, .int o0_floors, .int o0_cases, .int o0_one, .int o0_dent, .int o0_seated, .ref o0_jurorName, .ref o0_floorName, .ref o0_caseName, .ref o0_pitch, .ref o0_length, .ref o0_hands, .ref o0_tune, .ref o0_dull, .ref o0_caseFloor, .ref o0_tuned])), (aJ ca o0_jurorName 10 f_o0_jurorName), (aJ ca o0_floorName 4 f_o0_floorName), (aJ ca o0_caseName 5 f_o0_caseName), (aI ca o0_pitch 10 f_o0_pitch), (aI ca o0_length 10 f_o0_length), (aI ca o0_hands 10 f_o0_hands), (aI ca o0_tune 4 f_o0_tune), (aI ca o0_dull 4 f_o0_dull), (aI ca o0_caseFloor 5 f_o0_caseFloor), (aI ca o0_tuned 40 f_o0_tuned)] := hD
  refine lv_aload_n hx hb dX5_copyFrom_121 rfl (lv_at hl 1 rfl) ?_
  refine va_get (D := D) (ci := 5) (v := .ref o0_hands) (C := RX5) (T := TX5) (N := 16) hx hb hts k2 hown hK.1 hP 11 rfl rfl 11 (by decide) k17 (fun _ h9 => h9) rfl dX5_copyFrom_122 ?_
  refine lv_iconst (v := 0) hx hb dX5_copyFrom_125 (by decide) ?_
  refine lv_aload_n hx hb dX5_copyFrom_126 rfl (lv_at hl 0 rfl) ?_
  refine va_get (D := D) (ci := 5) (v := .ref h0_hands) (C := RX5) (T := TX5) (N := 16) hx hb hts k2 hown hK.1 hP 0 rfl rfl 11 (by decide) k17 (fun _ h9 => h9) rfl dX5_copyFrom_127 ?_
  refine lv_iconst (v := 0) hx hb dX5_copyFrom_130 (by decide) ?_
  refine lv_bipush (v := 10) hx hb dX5_copyFrom_131 (by decide) ?_
  refine va_copyi hx hb (by rw [hml]; exact hl.1.symm) hown k9 k10 k11 k12 hK.1 hP hD hS 17 6 0 0 rfl rfl rfl rfl rfl (by decide) (by decide) (by decide) (Nat.le_of_ble_eq_true rfl) (Nat.le_of_ble_eq_true rfl) (fun _ _ => rfl) (Nat.le_of_ble_eq_true rfl) (Nat.le_of_ble_eq_true rfl) dX5_copyFrom_133 (fun H locs hP hD hS => ?_)
  obtain ⟨g_6, eg_6⟩ : ∃ y : Nat → Int32, y = va_cpy f_o0_hands f_h0_hands (0 : Int32).toNatClampNeg (0 : Int32).toNatClampNeg (10 : Int32).toNatClampNeg := ⟨_, rfl⟩
  rw [← eg_6] at hP hD
  have hP : va_P D vwCl [(h0, .inr (5, [.int o0_jurors, .int o0_floors, .int o0_cases, .int o0_one, .int o0_dent, .int o0_seated, .ref h0_jurorName, .ref h0_floorName, .ref h0_caseName, .ref h0_pitch, .ref h0_length, .ref h0_hands, .ref h0_tune, .ref h0_dull, .ref h0_caseFloor, .ref h0_tuned])), (aJ ca h0_jurorName 10 g_1), (aJ ca h0_floorName 4 g_2), (aJ ca h0_caseName 5 g_3), (aI ca h0_pitch 10 g_4), (aI ca h0_length 10 g_5), (aI ca h0_hands 10 g_6), (aI ca h0_tune 4 f_h0_tune), (aI ca h0_dull 4 f_h0_dull), (aI ca h0_caseFloor 5 f_h0_caseFloor), (aI ca h0_tuned 40 f_h0_tuned), (o0, .inr (5, [.int o0_jurors, .int o0_floors, .int o0_cases, .int o0_one, .int o0_dent, .int o0_seated, .ref o0_jurorName, .ref o0_floorName, .ref o0_caseName, .ref o0_pitch, .ref o0_length, .ref o0_hands, .ref o0_tune, .ref o0_dull, .ref o0_caseFloor, .ref o0_tuned])), (aJ ca o0_jurorName 10 f_o0_jurorName), (aJ ca o0_floorName 4 f_o0_floorName), (aJ ca o0_caseName 5 f_o0_caseName), (aI ca o0_pitch 10 f_o0_pitch), (aI ca o0_length 10 f_o0_length), (aI ca o0_hands 10 f_o0_hands), (aI ca o0_tune 4 f_o0_tune), (aI ca o0_dull 4 f_o0_dull), (aI ca o0_caseFloor 5 f_o0_caseFloor), (aI ca o0_tuned 40 f_o0_tuned)] H := hP
  have hD : va_D A [(h0, .inr (5, [.int o0_jurors, .int o0_floors, .int o0_cases, .int o0_one, .int o0_dent, .int o0_seated, .ref h0_jurorName, .ref h0_floorName, .ref h0_caseName, .ref h0_pitch, .ref h0_length, .ref h0_hands, .ref h0_tune, .ref h0_dull, .ref h0_caseFloor, .ref h0_tuned])), (aJ ca h0_jurorName 10 g_1), (aJ ca h0_floorName 4 g_2), (aJ ca h0_caseName 5 g_3), (aI ca h0_pitch 10 g_4), (aI ca h0_length 10 g_5), (aI ca h0_hands 10 g_6), (aI ca h0_tune 4 f_h0_tune), (aI ca h0_dull 4 f_h0_dull), (aI ca h0_caseFloor 5 f_h0_caseFloor), (aI ca h0_tuned 40 f_h0_tuned), (o0, .inr (5, [.int o0_jurors, .int o0_floors, .int o0_cases, .int o0_one, .int o0_dent, .int o0_seated, .ref o0_jurorName, .ref o0_floorName, .ref o0_caseName, .ref o0_pitch, .ref o0_length, .ref o0_hands, .ref o0_tune, .ref o0_dull, .ref o0_caseFloor, .ref o0_tuned])), (aJ ca o0_jurorName 10 f_o0_jurorName), (aJ ca o0_floorName 4 f_o0_floorName), (aJ ca o0_caseName 5 f_o0_caseName), (aI ca o0_pitch 10 f_o0_pitch), (aI ca o0_length 10 f_o0_length), (aI ca o0_hands 10 f_o0_hands), (aI ca o0_tune 4 f_o0_tune), (aI ca o0_dull 4 f_o0_dull), (aI ca o0_caseFloor 5 f_o0_caseFloor), (aI ca o0_tuned 40 f_o0_tuned)] := hD
  refine lv_aload_n hx hb dX5_copyFrom_136 rfl (lv_at hl 1 rfl) ?_
  refine va_get (D := D) (ci := 5) (v := .ref o0_tune) (C := RX5) (T := TX5) (N := 16) hx hb hts k2 hown hK.1 hP 11 rfl rfl 12 (by decide) k18 (fun _ h9 => h9) rfl dX5_copyFrom_137 ?_
  refine lv_iconst (v := 0) hx hb dX5_copyFrom_140 (by decide) ?_
  refine lv_aload_n hx hb dX5_copyFrom_141 rfl (lv_at hl 0 rfl) ?_
  refine va_get (D := D) (ci := 5) (v := .ref h0_tune) (C := RX5) (T := TX5) (N := 16) hx hb hts k2 hown hK.1 hP 0 rfl rfl 12 (by decide) k18 (fun _ h9 => h9) rfl dX5_copyFrom_142 ?_
  refine lv_iconst (v := 0) hx hb dX5_copyFrom_145 (by decide) ?_
  refine lv_iconst (v := 4) hx hb dX5_copyFrom_146 (by decide) ?_
  refine va_copyi hx hb (by rw [hml]; exact hl.1.symm) hown k9 k10 k11 k12 hK.1 hP hD hS 18 7 0 0 rfl rfl rfl rfl rfl (by decide) (by decide) (by decide) (Nat.le_of_ble_eq_true rfl) (Nat.le_of_ble_eq_true rfl) (fun _ _ => rfl) (Nat.le_of_ble_eq_true rfl) (Nat.le_of_ble_eq_true rfl) dX5_copyFrom_147 (fun H locs hP hD hS => ?_)
  obtain ⟨g_7, eg_7⟩ : ∃ y : Nat → Int32, y = va_cpy f_o0_tune f_h0_tune (0 : Int32).toNatClampNeg (0 : Int32).toNatClampNeg (4 : Int32).toNatClampNeg := ⟨_, rfl⟩
  rw [← eg_7] at hP hD
  have hP : va_P D vwCl [(h0, .inr (5, [.int o0_jurors, .int o0_floors, .int o0_cases, .int o0_one, .int o0_dent, .int o0_seated, .ref h0_jurorName, .ref h0_floorName, .ref h0_caseName, .ref h0_pitch, .ref h0_length, .ref h0_hands, .ref h0_tune, .ref h0_dull, .ref h0_caseFloor, .ref h0_tuned])), (aJ ca h0_jurorName 10 g_1), (aJ ca h0_floorName 4 g_2), (aJ ca h0_caseName 5 g_3), (aI ca h0_pitch 10 g_4), (aI ca h0_length 10 g_5), (aI ca h0_hands 10 g_6), (aI ca h0_tune 4 g_7), (aI ca h0_dull 4 f_h0_dull), (aI ca h0_caseFloor 5 f_h0_caseFloor), (aI ca h0_tuned 40 f_h0_tuned), (o0, .inr (5, [.int o0_jurors, .int o0_floors, .int o0_cases, .int o0_one, .int o0_dent, .int o0_seated, .ref o0_jurorName, .ref o0_floorName, .ref o0_caseName, .ref o0_pitch, .ref o0_length, .ref o0_hands, .ref o0_tune, .ref o0_dull, .ref o0_caseFloor, .ref o0_tuned])), (aJ ca o0_jurorName 10 f_o0_jurorName), (aJ ca o0_floorName 4 f_o0_floorName), (aJ ca o0_caseName 5 f_o0_caseName), (aI ca o0_pitch 10 f_o0_pitch), (aI ca o0_length 10 f_o0_length), (aI ca o0_hands 10 f_o0_hands), (aI ca o0_tune 4 f_o0_tune), (aI ca o0_dull 4 f_o0_dull), (aI ca o0_caseFloor 5 f_o0_caseFloor), (aI ca o0_tuned 40 f_o0_tuned)] H := hP
  have hD : va_D A [(h0, .inr (5, [.int o0_jurors, .int o0_floors, .int o0_cases, .int o0_one, .int o0_dent, .int o0_seated, .ref h0_jurorName, .ref h0_floorName, .ref h0_caseName, .ref h0_pitch, .ref h0_length, .ref h0_hands, .ref h0_tune, .ref h0_dull, .ref h0_caseFloor, .ref h0_tuned])), (aJ ca h0_jurorName 10 g_1), (aJ ca h0_floorName 4 g_2), (aJ ca h0_caseName 5 g_3), (aI ca h0_pitch 10 g_4), (aI ca h0_length 10 g_5), (aI ca h0_hands 10 g_6), (aI ca h0_tune 4 g_7), (aI ca h0_dull 4 f_h0_dull), (aI ca h0_caseFloor 5 f_h0_caseFloor), (aI ca h0_tuned 40 f_h0_tuned), (o0, .inr (5, [.int o0_jurors, .int o0_floors, .int o0_cases, .int o0_one, .int o0_dent, .int o0_seated, .ref o0_jurorName, .ref o0_floorName, .ref o0_caseName, .ref o0_pitch, .ref o0_length, .ref o0_hands, .ref o0_tune, .ref o0_dull, .ref o0_caseFloor, .ref o0_tuned])), (aJ ca o0_jurorName 10 f_o0_jurorName), (aJ ca o0_floorName 4 f_o0_floorName), (aJ ca o0_caseName 5 f_o0_caseName), (aI ca o0_pitch 10 f_o0_pitch), (aI ca o0_length 10 f_o0_length), (aI ca o0_hands 10 f_o0_hands), (aI ca o0_tune 4 f_o0_tune), (aI ca o0_dull 4 f_o0_dull), (aI ca o0_caseFloor 5 f_o0_caseFloor), (aI ca o0_tuned 40 f_o0_tuned)] := hD
  refine lv_aload_n hx hb dX5_copyFrom_150 rfl (lv_at hl 1 rfl) ?_
  refine va_get (D := D) (ci := 5) (v := .ref o0_dull) (C := RX5) (T := TX5) (N := 16) hx hb hts k2 hown hK.1 hP 11 rfl rfl 13 (by decide) k19 (fun _ h9 => h9) rfl dX5_copyFrom_151 ?_
  refine lv_iconst (v := 0) hx hb dX5_copyFrom_154 (by decide) ?_
  refine lv_aload_n hx hb dX5_copyFrom_155 rfl (lv_at hl 0 rfl) ?_
  refine va_get (D := D) (ci := 5) (v := .ref h0_dull) (C := RX5) (T := TX5) (N := 16) hx hb hts k2 hown hK.1 hP 0 rfl rfl 13 (by decide) k19 (fun _ h9 => h9) rfl dX5_copyFrom_156 ?_
  refine lv_iconst (v := 0) hx hb dX5_copyFrom_159 (by decide) ?_
  refine lv_iconst (v := 4) hx hb dX5_copyFrom_160 (by decide) ?_
  refine va_copyi hx hb (by rw [hml]; exact hl.1.symm) hown k9 k10 k11 k12 hK.1 hP hD hS 19 8 0 0 rfl rfl rfl rfl rfl (by decide) (by decide) (by decide) (Nat.le_of_ble_eq_true rfl) (Nat.le_of_ble_eq_true rfl) (fun _ _ => rfl) (Nat.le_of_ble_eq_true rfl) (Nat.le_of_ble_eq_true rfl) dX5_copyFrom_161 (fun H locs hP hD hS => ?_)
  obtain ⟨g_8, eg_8⟩ : ∃ y : Nat → Int32, y = va_cpy f_o0_dull f_h0_dull (0 : Int32).toNatClampNeg (0 : Int32).toNatClampNeg (4 : Int32).toNatClampNeg := ⟨_, rfl⟩
  rw [← eg_8] at hP hD
  have hP : va_P D vwCl [(h0, .inr (5, [.int o0_jurors, .int o0_floors, .int o0_cases, .int o0_one, .int o0_dent, .int o0_seated, .ref h0_jurorName, .ref h0_floorName, .ref h0_caseName, .ref h0_pitch, .ref h0_length, .ref h0_hands, .ref h0_tune, .ref h0_dull, .ref h0_caseFloor, .ref h0_tuned])), (aJ ca h0_jurorName 10 g_1), (aJ ca h0_floorName 4 g_2), (aJ ca h0_caseName 5 g_3), (aI ca h0_pitch 10 g_4), (aI ca h0_length 10 g_5), (aI ca h0_hands 10 g_6), (aI ca h0_tune 4 g_7), (aI ca h0_dull 4 g_8), (aI ca h0_caseFloor 5 f_h0_caseFloor), (aI ca h0_tuned 40 f_h0_tuned), (o0, .inr (5, [.int o0_jurors, .int o0_floors, .int o0_cases, .int o0_one, .int o0_dent, .int o0_seated, .ref o0_jurorName, .ref o0_floorName, .ref o0_caseName, .ref o0_pitch, .ref o0_length, .ref o0_hands, .ref o0_tune, .ref o0_dull, .ref o0_caseFloor, .ref o0_tuned])), (aJ ca o0_jurorName 10 f_o0_jurorName), (aJ ca o0_floorName 4 f_o0_floorName), (aJ ca o0_caseName 5 f_o0_caseName), (aI ca o0_pitch 10 f_o0_pitch), (aI ca o0_length 10 f_o0_length), (aI ca o0_hands 10 f_o0_hands), (aI ca o0_tune 4 f_o0_tune), (aI ca o0_dull 4 f_o0_dull), (aI ca o0_caseFloor 5 f_o0_caseFloor), (aI ca o0_tuned 40 f_o0_tuned)] H := hP
  have hD : va_D A [(h0, .inr (5, [.int o0_jurors, .int o0_floors, .int o0_cases, .int o0_one, .int o0_dent, .int o0_seated, .ref h0_jurorName, .ref h0_floorName, .ref h0_caseName, .ref h0_pitch, .ref h0_length, .ref h0_hands, .ref h0_tune, .ref h0_dull, .ref h0_caseFloor, .ref h0_tuned])), (aJ ca h0_jurorName 10 g_1), (aJ ca h0_floorName 4 g_2), (aJ ca h0_caseName 5 g_3), (aI ca h0_pitch 10 g_4), (aI ca h0_length 10 g_5), (aI ca h0_hands 10 g_6), (aI ca h0_tune 4 g_7), (aI ca h0_dull 4 g_8), (aI ca h0_caseFloor 5 f_h0_caseFloor), (aI ca h0_tuned 40 f_h0_tuned), (o0, .inr (5, [.int o0_jurors, .int o0_floors, .int o0_cases, .int o0_one, .int o0_dent, .int o0_seated, .ref o0_jurorName, .ref o0_floorName, .ref o0_caseName, .ref o0_pitch, .ref o0_length, .ref o0_hands, .ref o0_tune, .ref o0_dull, .ref o0_caseFloor, .ref o0_tuned])), (aJ ca o0_jurorName 10 f_o0_jurorName), (aJ ca o0_floorName 4 f_o0_floorName), (aJ ca o0_caseName 5 f_o0_caseName), (aI ca o0_pitch 10 f_o0_pitch), (aI ca o0_length 10 f_o0_length), (aI ca o0_hands 10 f_o0_hands), (aI ca o0_tune 4 f_o0_tune), (aI ca o0_dull 4 f_o0_dull), (aI ca o0_caseFloor 5 f_o0_caseFloor), (aI ca o0_tuned 40 f_o0_tuned)] := hD
  refine lv_aload_n hx hb dX5_copyFrom_164 rfl (lv_at hl 1 rfl) ?_
  refine va_get (D := D) (ci := 5) (v := .ref o0_caseFloor) (C := RX5) (T := TX5) (N := 16) hx hb hts k2 hown hK.1 hP 11 rfl rfl 14 (by decide) k20 (fun _ h9 => h9) rfl dX5_copyFrom_165 ?_
  refine lv_iconst (v := 0) hx hb dX5_copyFrom_168 (by decide) ?_
  refine lv_aload_n hx hb dX5_copyFrom_169 rfl (lv_at hl 0 rfl) ?_
  refine va_get (D := D) (ci := 5) (v := .ref h0_caseFloor) (C := RX5) (T := TX5) (N := 16) hx hb hts k2 hown hK.1 hP 0 rfl rfl 14 (by decide) k20 (fun _ h9 => h9) rfl dX5_copyFrom_170 ?_
  refine lv_iconst (v := 0) hx hb dX5_copyFrom_173 (by decide) ?_
  refine lv_iconst (v := 5) hx hb dX5_copyFrom_174 (by decide) ?_
  refine va_copyi hx hb (by rw [hml]; exact hl.1.symm) hown k9 k10 k11 k12 hK.1 hP hD hS 20 9 0 0 rfl rfl rfl rfl rfl (by decide) (by decide) (by decide) (Nat.le_of_ble_eq_true rfl) (Nat.le_of_ble_eq_true rfl) (fun _ _ => rfl) (Nat.le_of_ble_eq_true rfl) (Nat.le_of_ble_eq_true rfl) dX5_copyFrom_175 (fun H locs hP hD hS => ?_)
  obtain ⟨g_9, eg_9⟩ : ∃ y : Nat → Int32, y = va_cpy f_o0_caseFloor f_h0_caseFloor (0 : Int32).toNatClampNeg (0 : Int32).toNatClampNeg (5 : Int32).toNatClampNeg := ⟨_, rfl⟩
  rw [← eg_9] at hP hD
  have hP : va_P D vwCl [(h0, .inr (5, [.int o0_jurors, .int o0_floors, .int o0_cases, .int o0_one, .int o0_dent, .int o0_seated, .ref h0_jurorName, .ref h0_floorName, .ref h0_caseName, .ref h0_pitch, .ref h0_length, .ref h0_hands, .ref h0_tune, .ref h0_dull, .ref h0_caseFloor, .ref h0_tuned])), (aJ ca h0_jurorName 10 g_1), (aJ ca h0_floorName 4 g_2), (aJ ca h0_caseName 5 g_3), (aI ca h0_pitch 10 g_4), (aI ca h0_length 10 g_5), (aI ca h0_hands 10 g_6), (aI ca h0_tune 4 g_7), (aI ca h0_dull 4 g_8), (aI ca h0_caseFloor 5 g_9), (aI ca h0_tuned 40 f_h0_tuned), (o0, .inr (5, [.int o0_jurors, .int o0_floors, .int o0_cases, .int o0_one, .int o0_dent, .int o0_seated, .ref o0_jurorName, .ref o0_floorName, .ref o0_caseName, .ref o0_pitch, .ref o0_length, .ref o0_hands, .ref o0_tune, .ref o0_dull, .ref o0_caseFloor, .ref o0_tuned])), (aJ ca o0_jurorName 10 f_o0_jurorName), (aJ ca o0_floorName 4 f_o0_floorName), (aJ ca o0_caseName 5 f_o0_caseName), (aI ca o0_pitch 10 f_o0_pitch), (aI ca o0_length 10 f_o0_length), (aI ca o0_hands 10 f_o0_hands), (aI ca o0_tune 4 f_o0_tune), (aI ca o0_dull 4 f_o0_dull), (aI ca o0_caseFloor 5 f_o0_caseFloor), (aI ca o0_tuned 40 f_o0_tuned)] H := hP
  have hD : va_D A [(h0, .inr (5, [.int o0_jurors, .int o0_floors, .int o0_cases, .int o0_one, .int o0_dent, .int o0_seated, .ref h0_jurorName, .ref h0_floorName, .ref h0_caseName, .ref h0_pitch, .ref h0_length, .ref h0_hands, .ref h0_tune, .ref h0_dull, .ref h0_caseFloor, .ref h0_tuned])), (aJ ca h0_jurorName 10 g_1), (aJ ca h0_floorName 4 g_2), (aJ ca h0_caseName 5 g_3), (aI ca h0_pitch 10 g_4), (aI ca h0_length 10 g_5), (aI ca h0_hands 10 g_6), (aI ca h0_tune 4 g_7), (aI ca h0_dull 4 g_8), (aI ca h0_caseFloor 5 g_9), (aI ca h0_tuned 40 f_h0_tuned), (o0, .inr (5, [.int o0_jurors, .int o0_floors, .int o0_cases, .int o0_one, .int o0_dent, .int o0_seated, .ref o0_jurorName, .ref o0_floorName, .ref o0_caseName, .ref o0_pitch, .ref o0_length, .ref o0_hands, .ref o0_tune, .ref o0_dull, .ref o0_caseFloor, .ref o0_tuned])), (aJ ca o0_jurorName 10 f_o0_jurorName), (aJ ca o0_floorName 4 f_o0_floorName), (aJ ca o0_caseName 5 f_o0_caseName), (aI ca o0_pitch 10 f_o0_pitch), (aI ca o0_length 10 f_o0_length), (aI ca o0_hands 10 f_o0_hands), (aI ca o0_tune 4 f_o0_tune), (aI ca o0_dull 4 f_o0_dull), (aI ca o0_caseFloor 5 f_o0_caseFloor), (aI ca o0_tuned 40 f_o0_tuned)] := hD
  refine lv_aload_n hx hb dX5_copyFrom_178 rfl (lv_at hl 1 rfl) ?_
  refine va_get (D := D) (ci := 5) (v := .ref o0_tuned) (C := RX5) (T := TX5) (N := 16) hx hb hts k2 hown hK.1 hP 11 rfl rfl 15 (by decide) k21 (fun _ h9 => h9) rfl dX5_copyFrom_179 ?_
  refine lv_iconst (v := 0) hx hb dX5_copyFrom_182 (by decide) ?_
  refine lv_aload_n hx hb dX5_copyFrom_183 rfl (lv_at hl 0 rfl) ?_
  refine va_get (D := D) (ci := 5) (v := .ref h0_tuned) (C := RX5) (T := TX5) (N := 16) hx hb hts k2 hown hK.1 hP 0 rfl rfl 15 (by decide) k21 (fun _ h9 => h9) rfl dX5_copyFrom_184 ?_
  refine lv_iconst (v := 0) hx hb dX5_copyFrom_187 (by decide) ?_
  refine lv_bipush (v := 40) hx hb dX5_copyFrom_188 (by decide) ?_
  refine va_copyi hx hb (by rw [hml]; exact hl.1.symm) hown k9 k10 k11 k12 hK.1 hP hD hS 21 10 0 0 rfl rfl rfl rfl rfl (by decide) (by decide) (by decide) (Nat.le_of_ble_eq_true rfl) (Nat.le_of_ble_eq_true rfl) (fun _ _ => rfl) (Nat.le_of_ble_eq_true rfl) (Nat.le_of_ble_eq_true rfl) dX5_copyFrom_190 (fun H locs hP hD hS => ?_)
  obtain ⟨g_10, eg_10⟩ : ∃ y : Nat → Int32, y = va_cpy f_o0_tuned f_h0_tuned (0 : Int32).toNatClampNeg (0 : Int32).toNatClampNeg (40 : Int32).toNatClampNeg := ⟨_, rfl⟩
  rw [← eg_10] at hP hD
  have hP : va_P D vwCl [(h0, .inr (5, [.int o0_jurors, .int o0_floors, .int o0_cases, .int o0_one, .int o0_dent, .int o0_seated, .ref h0_jurorName, .ref h0_floorName, .ref h0_caseName, .ref h0_pitch, .ref h0_length, .ref h0_hands, .ref h0_tune, .ref h0_dull, .ref h0_caseFloor, .ref h0_tuned])), (aJ ca h0_jurorName 10 g_1), (aJ ca h0_floorName 4 g_2), (aJ ca h0_caseName 5 g_3), (aI ca h0_pitch 10 g_4), (aI ca h0_length 10 g_5), (aI ca h0_hands 10 g_6), (aI ca h0_tune 4 g_7), (aI ca h0_dull 4 g_8), (aI ca h0_caseFloor 5 g_9), (aI ca h0_tuned 40 g_10), (o0, .inr (5, [.int o0_jurors, .int o0_floors, .int o0_cases, .int o0_one, .int o0_dent, .int o0_seated, .ref o0_jurorName, .ref o0_floorName, .ref o0_caseName, .ref o0_pitch, .ref o0_length, .ref o0_hands, .ref o0_tune, .ref o0_dull, .ref o0_caseFloor, .ref o0_tuned])), (aJ ca o0_jurorName 10 f_o0_jurorName), (aJ ca o0_floorName 4 f_o0_floorName), (aJ ca o0_caseName 5 f_o0_caseName), (aI ca o0_pitch 10 f_o0_pitch), (aI ca o0_length 10 f_o0_length), (aI ca o0_hands 10 f_o0_hands), (aI ca o0_tune 4 f_o0_tune), (aI ca o0_dull 4 f_o0_dull), (aI ca o0_caseFloor 5 f_o0_caseFloor), (aI ca o0_tuned 40 f_o0_tuned)] H := hP
  have hD : va_D A [(h0, .inr (5, [.int o0_jurors, .int o0_floors, .int o0_cases, .int o0_one, .int o0_dent, .int o0_seated, .ref h0_jurorName, .ref h0_floorName, .ref h0_caseName, .ref h0_pitch, .ref h0_length, .ref h0_hands, .ref h0_tune, .ref h0_dull, .ref h0_caseFloor, .ref h0_tuned])), (aJ ca h0_jurorName 10 g_1), (aJ ca h0_floorName 4 g_2), (aJ ca h0_caseName 5 g_3), (aI ca h0_pitch 10 g_4), (aI ca h0_length 10 g_5), (aI ca h0_hands 10 g_6), (aI ca h0_tune 4 g_7), (aI ca h0_dull 4 g_8), (aI ca h0_caseFloor 5 g_9), (aI ca h0_tuned 40 g_10), (o0, .inr (5, [.int o0_jurors, .int o0_floors, .int o0_cases, .int o0_one, .int o0_dent, .int o0_seated, .ref o0_jurorName, .ref o0_floorName, .ref o0_caseName, .ref o0_pitch, .ref o0_length, .ref o0_hands, .ref o0_tune, .ref o0_dull, .ref o0_caseFloor, .ref o0_tuned])), (aJ ca o0_jurorName 10 f_o0_jurorName), (aJ ca o0_floorName 4 f_o0_floorName), (aJ ca o0_caseName 5 f_o0_caseName), (aI ca o0_pitch 10 f_o0_pitch), (aI ca o0_length 10 f_o0_length), (aI ca o0_hands 10 f_o0_hands), (aI ca o0_tune 4 f_o0_tune), (aI ca o0_dull 4 f_o0_dull), (aI ca o0_caseFloor 5 f_o0_caseFloor), (aI ca o0_tuned 40 f_o0_tuned)] := hD
  exact oE_v hx hb hr hlocks hP hD hS (g_1, g_2, g_3, g_4, g_5, g_6, g_7, g_8, g_9, g_10) [0, 1, 2, 3, 4, 5, 6, 7, 8, 9, 10, 11, 12, 13, 14, 15, 16, 17, 18, 19, 20, 21] rfl (by decide) trivial (Nat.le_of_ble_eq_true rfl) (Nat.le_of_ble_eq_true rfl) dX5_copyFrom_193
theorem dX9_copyFrom_0 : decode cX9_copyFrom 0 = .ok (.aload_n 0, 1) := by decide +kernel
theorem dX9_copyFrom_1 : decode cX9_copyFrom 1 = .ok (.aload_n 1, 1) := by decide +kernel
theorem dX9_copyFrom_2 : decode cX9_copyFrom 2 = .ok (.getfield 30, 3) := by decide +kernel
theorem dX9_copyFrom_5 : decode cX9_copyFrom 5 = .ok (.putfield 30, 3) := by decide +kernel
theorem dX9_copyFrom_8 : decode cX9_copyFrom 8 = .ok (.aload_n 0, 1) := by decide +kernel
theorem dX9_copyFrom_9 : decode cX9_copyFrom 9 = .ok (.aload_n 1, 1) := by decide +kernel
theorem dX9_copyFrom_10 : decode cX9_copyFrom 10 = .ok (.getfield 39, 3) := by decide +kernel
theorem dX9_copyFrom_13 : decode cX9_copyFrom 13 = .ok (.putfield 39, 3) := by decide +kernel
theorem dX9_copyFrom_16 : decode cX9_copyFrom 16 = .ok (.aload_n 0, 1) := by decide +kernel
theorem dX9_copyFrom_17 : decode cX9_copyFrom 17 = .ok (.aload_n 1, 1) := by decide +kernel
theorem dX9_copyFrom_18 : decode cX9_copyFrom 18 = .ok (.getfield 42, 3) := by decide +kernel
theorem dX9_copyFrom_21 : decode cX9_copyFrom 21 = .ok (.putfield 42, 3) := by decide +kernel
theorem dX9_copyFrom_24 : decode cX9_copyFrom 24 = .ok (.aload_n 0, 1) := by decide +kernel
theorem dX9_copyFrom_25 : decode cX9_copyFrom 25 = .ok (.aload_n 1, 1) := by decide +kernel
theorem dX9_copyFrom_26 : decode cX9_copyFrom 26 = .ok (.getfield 45, 3) := by decide +kernel
theorem dX9_copyFrom_29 : decode cX9_copyFrom 29 = .ok (.putfield 45, 3) := by decide +kernel
theorem dX9_copyFrom_32 : decode cX9_copyFrom 32 = .ok (.aload_n 0, 1) := by decide +kernel
theorem dX9_copyFrom_33 : decode cX9_copyFrom 33 = .ok (.aload_n 1, 1) := by decide +kernel
theorem dX9_copyFrom_34 : decode cX9_copyFrom 34 = .ok (.getfield 48, 3) := by decide +kernel
theorem dX9_copyFrom_37 : decode cX9_copyFrom 37 = .ok (.putfield 48, 3) := by decide +kernel
theorem dX9_copyFrom_40 : decode cX9_copyFrom 40 = .ok (.aload_n 1, 1) := by decide +kernel
theorem dX9_copyFrom_41 : decode cX9_copyFrom 41 = .ok (.getfield 9, 3) := by decide +kernel
theorem dX9_copyFrom_44 : decode cX9_copyFrom 44 = .ok (.iconst 0, 1) := by decide +kernel
theorem dX9_copyFrom_45 : decode cX9_copyFrom 45 = .ok (.aload_n 0, 1) := by decide +kernel
theorem dX9_copyFrom_46 : decode cX9_copyFrom 46 = .ok (.getfield 9, 3) := by decide +kernel
theorem dX9_copyFrom_49 : decode cX9_copyFrom 49 = .ok (.iconst 0, 1) := by decide +kernel
theorem dX9_copyFrom_50 : decode cX9_copyFrom 50 = .ok (.bipush 10, 2) := by decide +kernel
theorem dX9_copyFrom_52 : decode cX9_copyFrom 52 = .ok (.invokestatic 52, 3) := by decide +kernel
theorem dX9_copyFrom_55 : decode cX9_copyFrom 55 = .ok (.aload_n 1, 1) := by decide +kernel
theorem dX9_copyFrom_56 : decode cX9_copyFrom 56 = .ok (.getfield 15, 3) := by decide +kernel
theorem dX9_copyFrom_59 : decode cX9_copyFrom 59 = .ok (.iconst 0, 1) := by decide +kernel
theorem dX9_copyFrom_60 : decode cX9_copyFrom 60 = .ok (.aload_n 0, 1) := by decide +kernel
theorem dX9_copyFrom_61 : decode cX9_copyFrom 61 = .ok (.getfield 15, 3) := by decide +kernel
theorem dX9_copyFrom_64 : decode cX9_copyFrom 64 = .ok (.iconst 0, 1) := by decide +kernel
theorem dX9_copyFrom_65 : decode cX9_copyFrom 65 = .ok (.bipush 10, 2) := by decide +kernel
theorem dX9_copyFrom_67 : decode cX9_copyFrom 67 = .ok (.invokestatic 52, 3) := by decide +kernel
theorem dX9_copyFrom_70 : decode cX9_copyFrom 70 = .ok (.aload_n 1, 1) := by decide +kernel
theorem dX9_copyFrom_71 : decode cX9_copyFrom 71 = .ok (.getfield 18, 3) := by decide +kernel
theorem dX9_copyFrom_74 : decode cX9_copyFrom 74 = .ok (.iconst 0, 1) := by decide +kernel
theorem dX9_copyFrom_75 : decode cX9_copyFrom 75 = .ok (.aload_n 0, 1) := by decide +kernel
theorem dX9_copyFrom_76 : decode cX9_copyFrom 76 = .ok (.getfield 18, 3) := by decide +kernel
theorem dX9_copyFrom_79 : decode cX9_copyFrom 79 = .ok (.iconst 0, 1) := by decide +kernel
theorem dX9_copyFrom_80 : decode cX9_copyFrom 80 = .ok (.iconst 5, 1) := by decide +kernel
theorem dX9_copyFrom_81 : decode cX9_copyFrom 81 = .ok (.invokestatic 52, 3) := by decide +kernel
theorem dX9_copyFrom_84 : decode cX9_copyFrom 84 = .ok (.aload_n 1, 1) := by decide +kernel
theorem dX9_copyFrom_85 : decode cX9_copyFrom 85 = .ok (.getfield 21, 3) := by decide +kernel
theorem dX9_copyFrom_88 : decode cX9_copyFrom 88 = .ok (.iconst 0, 1) := by decide +kernel
theorem dX9_copyFrom_89 : decode cX9_copyFrom 89 = .ok (.aload_n 0, 1) := by decide +kernel
theorem dX9_copyFrom_90 : decode cX9_copyFrom 90 = .ok (.getfield 21, 3) := by decide +kernel
theorem dX9_copyFrom_93 : decode cX9_copyFrom 93 = .ok (.iconst 0, 1) := by decide +kernel
theorem dX9_copyFrom_94 : decode cX9_copyFrom 94 = .ok (.iconst 5, 1) := by decide +kernel
theorem dX9_copyFrom_95 : decode cX9_copyFrom 95 = .ok (.invokestatic 52, 3) := by decide +kernel
theorem dX9_copyFrom_98 : decode cX9_copyFrom 98 = .ok (.aload_n 1, 1) := by decide +kernel
theorem dX9_copyFrom_99 : decode cX9_copyFrom 99 = .ok (.getfield 24, 3) := by decide +kernel
theorem dX9_copyFrom_102 : decode cX9_copyFrom 102 = .ok (.iconst 0, 1) := by decide +kernel
theorem dX9_copyFrom_103 : decode cX9_copyFrom 103 = .ok (.aload_n 0, 1) := by decide +kernel
theorem dX9_copyFrom_104 : decode cX9_copyFrom 104 = .ok (.getfield 24, 3) := by decide +kernel
theorem dX9_copyFrom_107 : decode cX9_copyFrom 107 = .ok (.iconst 0, 1) := by decide +kernel
theorem dX9_copyFrom_108 : decode cX9_copyFrom 108 = .ok (.iconst 5, 1) := by decide +kernel
theorem dX9_copyFrom_109 : decode cX9_copyFrom 109 = .ok (.invokestatic 52, 3) := by decide +kernel
theorem dX9_copyFrom_112 : decode cX9_copyFrom 112 = .ok (.aload_n 1, 1) := by decide +kernel
theorem dX9_copyFrom_113 : decode cX9_copyFrom 113 = .ok (.getfield 27, 3) := by decide +kernel
theorem dX9_copyFrom_116 : decode cX9_copyFrom 116 = .ok (.iconst 0, 1) := by decide +kernel
theorem dX9_copyFrom_117 : decode cX9_copyFrom 117 = .ok (.aload_n 0, 1) := by decide +kernel
theorem dX9_copyFrom_118 : decode cX9_copyFrom 118 = .ok (.getfield 27, 3) := by decide +kernel
theorem dX9_copyFrom_121 : decode cX9_copyFrom 121 = .ok (.iconst 0, 1) := by decide +kernel
theorem dX9_copyFrom_122 : decode cX9_copyFrom 122 = .ok (.iconst 5, 1) := by decide +kernel
theorem dX9_copyFrom_123 : decode cX9_copyFrom 123 = .ok (.invokestatic 52, 3) := by decide +kernel
theorem dX9_copyFrom_126 : decode cX9_copyFrom 126 = .ok (.return_, 1) := by decide +kernel
set_option maxHeartbeats 4000000 in
set_option maxRecDepth 100000 in
theorem c_X9_copyFrom (l : Launch) (D : va_G) (ca : Nat → ClassId) (sz : Nat) (h0 : Nat) (o0 : Nat) (h0_day : Int32) (h0_sits : Int32) (h0_holds : Int32) (h0_trials : Int32) (h0_triedToday : Int32) (h0_dents : Nat) (h0_drops : Nat) (h0_how : Nat) (h0_triedOn : Nat) (h0_dropped : Nat) (h0_heldOn : Nat) (f_h0_dents : Nat → Int32) (f_h0_drops : Nat → Int32) (f_h0_how : Nat → Int32) (f_h0_triedOn : Nat → Int32) (f_h0_dropped : Nat → Int32) (f_h0_heldOn : Nat → Int32) (o0_day : Int32) (o0_sits : Int32) (o0_holds : Int32) (o0_trials : Int32) (o0_dents : Nat) (o0_drops : Nat) (o0_how : Nat) (o0_triedOn : Nat) (o0_dropped : Nat) (o0_heldOn : Nat) (f_o0_dents : Nat → Int32) (f_o0_drops : Nat → Int32) (f_o0_how : Nat → Int32) (f_o0_triedOn : Nat → Int32) (f_o0_dropped : Nat → Int32) (f_o0_heldOn : Nat → Int32)  : oMet l yX9_copyFrom wsX9_copyFrom ({ frames := 1, cells := 0, slots := 0, locals := 60 } : Room) [.ref h0, .ref o0] D ca sz [(h0, .inr (9, [.int h0_day, .int h0_sits, .int h0_holds, .int h0_trials, .int h0_triedToday, .ref h0_dents, .ref h0_drops, .ref h0_how, .ref h0_triedOn, .ref h0_dropped, .ref h0_heldOn])), (aI ca h0_dents 10 f_h0_dents), (aI ca h0_drops 10 f_h0_drops), (aI ca h0_how 5 f_h0_how), (aI ca h0_triedOn 5 f_h0_triedOn), (aI ca h0_dropped 5 f_h0_dropped), (aI ca h0_heldOn 5 f_h0_heldOn), (o0, .inr (9, [.int o0_day, .int o0_sits, .int o0_holds, .int o0_trials, .int 0, .ref o0_dents, .ref o0_drops, .ref o0_how, .ref o0_triedOn, .ref o0_dropped, .ref o0_heldOn])), (aI ca o0_dents 10 f_o0_dents), (aI ca o0_drops 10 f_o0_drops), (aI ca o0_how 5 f_o0_how), (aI ca o0_triedOn 5 f_o0_triedOn), (aI ca o0_dropped 5 f_o0_dropped), (aI ca o0_heldOn 5 f_o0_heldOn)] (oQv D (fun (u : (Nat → Int32) × (Nat → Int32) × (Nat → Int32) × (Nat → Int32) × (Nat → Int32) × (Nat → Int32)) => True) (fun (u : (Nat → Int32) × (Nat → Int32) × (Nat → Int32) × (Nat → Int32) × (Nat → Int32) × (Nat → Int32)) => [(h0, .inr (9, [.int o0_day, .int o0_sits, .int o0_holds, .int o0_trials, .int 0, .ref h0_dents, .ref h0_drops, .ref h0_how, .ref h0_triedOn, .ref h0_dropped, .ref h0_heldOn])), (aI ca h0_dents 10 u.1), (aI ca h0_drops 10 u.2.1), (aI ca h0_how 5 u.2.2.1), (aI ca h0_triedOn 5 u.2.2.2.1), (aI ca h0_dropped 5 u.2.2.2.2.1), (aI ca h0_heldOn 5 u.2.2.2.2.2), (o0, .inr (9, [.int o0_day, .int o0_sits, .int o0_holds, .int o0_trials, .int 0, .ref o0_dents, .ref o0_drops, .ref o0_how, .ref o0_triedOn, .ref o0_dropped, .ref o0_heldOn])), (aI ca o0_dents 10 f_o0_dents), (aI ca o0_drops 10 f_o0_drops), (aI ca o0_how 5 f_o0_how), (aI ca o0_triedOn 5 f_o0_triedOn), (aI ca o0_dropped 5 f_o0_dropped), (aI ca o0_heldOn 5 f_o0_heldOn)])) 0 0 := by
  refine oM (cc := cX9_copyFrom) (maxL := 2) (ret := none) (by decide) rfl (Nat.le_of_ble_eq_true rfl) [(0, .ref h0), (1, .ref o0)] rfl ?_
  intro p e s m below meth c A H locs ls hx hb hr hml hts hown hlocks hin hK hP hD hA hS hl
  have hown : s.vm.findClass RX9 = some m.cls := hown
  have k1 := hts (.fieldLink RX9 30 "LidCourt$Standing" "day" "I") (by decide +kernel)
  have k2 : ∀ w ∈ wsX90, w ∈ wsX9_copyFrom := fun _ h => List.mem_cons_of_mem _ (List.mem_append_right _ h)
  have k3 := hts (.fieldLink RX9 39 "LidCourt$Standing" "sits" "I") (by decide +kernel)
  have k4 := hts (.fieldLink RX9 42 "LidCourt$Standing" "holds" "I") (by decide +kernel)
  have k5 := hts (.fieldLink RX9 45 "LidCourt$Standing" "trials" "I") (by decide +kernel)
  have k6 := hts (.fieldLink RX9 48 "LidCourt$Standing" "triedToday" "Z") (by decide +kernel)
  have k7 := hts (.fieldLink RX9 9 "LidCourt$Standing" "dents" "[I") (by decide +kernel)
  have k8 := hts (.methodLink RX9 52 arraycopyName) (by decide +kernel)
  have k9 := hts (.native arraycopyName) (by decide +kernel)
  have k10 := hts (.static arraycopyName) (by decide +kernel)
  have k11 := hts (.initialized "java/lang/System") (by decide +kernel)
  have k12 := hts (.fieldLink RX9 15 "LidCourt$Standing" "drops" "[I") (by decide +kernel)
  have k13 := hts (.fieldLink RX9 18 "LidCourt$Standing" "how" "[I") (by decide +kernel)
  have k14 := hts (.fieldLink RX9 21 "LidCourt$Standing" "triedOn" "[I") (by decide +kernel)
  have k15 := hts (.fieldLink RX9 24 "LidCourt$Standing" "dropped" "[I") (by decide +kernel)
  have k16 := hts (.fieldLink RX9 27 "LidCourt$Standing" "heldOn" "[I") (by decide +kernel)
  refine lv_aload_n hx hb dX9_copyFrom_0 rfl (lv_at hl 0 rfl) ?_
  refine lv_aload_n hx hb dX9_copyFrom_1 rfl (lv_at hl 1 rfl) ?_
  refine va_get (D := D) (ci := 9) (v := .int o0_day) (C := RX9) (T := TX9) (N := 11) hx hb hts k2 hown hK.1 hP 7 rfl rfl 0 (by decide) k1 (fun _ h9 => h9) rfl dX9_copyFrom_2 ?_
  refine va_put (D := D) (ci := 9) (v := .int o0_day) (ty := .int) (C := RX9) (T := TX9) (N := 11) hx hb hts k2 tyX9 tyX9_ok nmX9 hown hK.1 hP hD hS 0 rfl rfl 0 (by decide) k1 (fun _ h9 => h9) rfl (by decide +kernel) rfl rfl (Nat.le_of_ble_eq_true rfl) dX9_copyFrom_5 (fun H locs hP hD hS => ?_)
  have hP : va_P D vwCl [(h0, .inr (9, [.int o0_day, .int h0_sits, .int h0_holds, .int h0_trials, .int h0_triedToday, .ref h0_dents, .ref h0_drops, .ref h0_how, .ref h0_triedOn, .ref h0_dropped, .ref h0_heldOn])), (aI ca h0_dents 10 f_h0_dents), (aI ca h0_drops 10 f_h0_drops), (aI ca h0_how 5 f_h0_how), (aI ca h0_triedOn 5 f_h0_triedOn), (aI ca h0_dropped 5 f_h0_dropped), (aI ca h0_heldOn 5 f_h0_heldOn), (o0, .inr (9, [.int o0_day, .int o0_sits, .int o0_holds, .int o0_trials, .int 0, .ref o0_dents, .ref o0_drops, .ref o0_how, .ref o0_triedOn, .ref o0_dropped, .ref o0_heldOn])), (aI ca o0_dents 10 f_o0_dents), (aI ca o0_drops 10 f_o0_drops), (aI ca o0_how 5 f_o0_how), (aI ca o0_triedOn 5 f_o0_triedOn), (aI ca o0_dropped 5 f_o0_dropped), (aI ca o0_heldOn 5 f_o0_heldOn)] H := hP
  have hD : va_D A [(h0, .inr (9, [.int o0_day, .int h0_sits, .int h0_holds, .int h0_trials, .int h0_triedToday, .ref h0_dents, .ref h0_drops, .ref h0_how, .ref h0_triedOn, .ref h0_dropped, .ref h0_heldOn])), (aI ca h0_dents 10 f_h0_dents), (aI ca h0_drops 10 f_h0_drops), (aI ca h0_how 5 f_h0_how), (aI ca h0_triedOn 5 f_h0_triedOn), (aI ca h0_dropped 5 f_h0_dropped), (aI ca h0_heldOn 5 f_h0_heldOn), (o0, .inr (9, [.int o0_day, .int o0_sits, .int o0_holds, .int o0_trials, .int 0, .ref o0_dents, .ref o0_drops, .ref o0_how, .ref o0_triedOn, .ref o0_dropped, .ref o0_heldOn])), (aI ca o0_dents 10 f_o0_dents), (aI ca o0_drops 10 f_o0_drops), (aI ca o0_how 5 f_o0_how), (aI ca o0_triedOn 5 f_o0_triedOn), (aI ca o0_dropped 5 f_o0_dropped), (aI ca o0_heldOn 5 f_o0_heldOn)] := hD
  refine lv_aload_n hx hb dX9_copyFrom_8 rfl (lv_at hl 0 rfl) ?_
  refine lv_aload_n hx hb dX9_copyFrom_9 rfl (lv_at hl 1 rfl) ?_
  refine va_get (D := D) (ci := 9) (v := .int o0_sits) (C := RX9) (T := TX9) (N := 11) hx hb hts k2 hown hK.1 hP 7 rfl rfl 1 (by decide) k3 (fun _ h9 => h9) rfl dX9_copyFrom_10 ?_
  refine va_put (D := D) (ci := 9) (v := .int o0_sits) (ty := .int) (C := RX9) (T := TX9) (N := 11) hx hb hts k2 tyX9 tyX9_ok nmX9 hown hK.1 hP hD hS 0 rfl rfl 1 (by decide) k3 (fun _ h9 => h9) rfl (by decide +kernel) rfl rfl (Nat.le_of_ble_eq_true rfl) dX9_copyFrom_13 (fun H locs hP hD hS => ?_)
  have hP : va_P D vwCl [(h0, .inr (9, [.int o0_day, .int o0_sits, .int h0_holds, .int h0_trials, .int h0_triedToday, .ref h0_dents, .ref h0_drops, .ref h0_how, .ref h0_triedOn, .ref h0_dropped, .ref h0_heldOn])), (aI ca h0_dents 10 f_h0_dents), (aI ca h0_drops 10 f_h0_drops), (aI ca h0_how 5 f_h0_how), (aI ca h0_triedOn 5 f_h0_triedOn), (aI ca h0_dropped 5 f_h0_dropped), (aI ca h0_heldOn 5 f_h0_heldOn), (o0, .inr (9, [.int o0_day, .int o0_sits, .int o0_holds, .int o0_trials, .int 0, .ref o0_dents, .ref o0_drops, .ref o0_how, .ref o0_triedOn, .ref o0_dropped, .ref o0_heldOn])), (aI ca o0_dents 10 f_o0_dents), (aI ca o0_drops 10 f_o0_drops), (aI ca o0_how 5 f_o0_how), (aI ca o0_triedOn 5 f_o0_triedOn), (aI ca o0_dropped 5 f_o0_dropped), (aI ca o0_heldOn 5 f_o0_heldOn)] H := hP
  have hD : va_D A [(h0, .inr (9, [.int o0_day, .int o0_sits, .int h0_holds, .int h0_trials, .int h0_triedToday, .ref h0_dents, .ref h0_drops, .ref h0_how, .ref h0_triedOn, .ref h0_dropped, .ref h0_heldOn])), (aI ca h0_dents 10 f_h0_dents), (aI ca h0_drops 10 f_h0_drops), (aI ca h0_how 5 f_h0_how), (aI ca h0_triedOn 5 f_h0_triedOn), (aI ca h0_dropped 5 f_h0_dropped), (aI ca h0_heldOn 5 f_h0_heldOn), (o0, .inr (9, [.int o0_day, .int o0_sits, .int o0_holds, .int o0_trials, .int 0, .ref o0_dents, .ref o0_drops, .ref o0_how, .ref o0_triedOn, .ref o0_dropped, .ref o0_heldOn])), (aI ca o0_dents 10 f_o0_dents), (aI ca o0_drops 10 f_o0_drops), (aI ca o0_how 5 f_o0_how), (aI ca o0_triedOn 5 f_o0_triedOn), (aI ca o0_dropped 5 f_o0_dropped), (aI ca o0_heldOn 5 f_o0_heldOn)] := hD
  refine lv_aload_n hx hb dX9_copyFrom_16 rfl (lv_at hl 0 rfl) ?_
  refine lv_aload_n hx hb dX9_copyFrom_17 rfl (lv_at hl 1 rfl) ?_
  refine va_get (D := D) (ci := 9) (v := .int o0_holds) (C := RX9) (T := TX9) (N := 11) hx hb hts k2 hown hK.1 hP 7 rfl rfl 2 (by decide) k4 (fun _ h9 => h9) rfl dX9_copyFrom_18 ?_
  refine va_put (D := D) (ci := 9) (v := .int o0_holds) (ty := .int) (C := RX9) (T := TX9) (N := 11) hx hb hts k2 tyX9 tyX9_ok nmX9 hown hK.1 hP hD hS 0 rfl rfl 2 (by decide) k4 (fun _ h9 => h9) rfl (by decide +kernel) rfl rfl (Nat.le_of_ble_eq_true rfl) dX9_copyFrom_21 (fun H locs hP hD hS => ?_)
  have hP : va_P D vwCl [(h0, .inr (9, [.int o0_day, .int o0_sits, .int o0_holds, .int h0_trials, .int h0_triedToday, .ref h0_dents, .ref h0_drops, .ref h0_how, .ref h0_triedOn, .ref h0_dropped, .ref h0_heldOn])), (aI ca h0_dents 10 f_h0_dents), (aI ca h0_drops 10 f_h0_drops), (aI ca h0_how 5 f_h0_how), (aI ca h0_triedOn 5 f_h0_triedOn), (aI ca h0_dropped 5 f_h0_dropped), (aI ca h0_heldOn 5 f_h0_heldOn), (o0, .inr (9, [.int o0_day, .int o0_sits, .int o0_holds, .int o0_trials, .int 0, .ref o0_dents, .ref o0_drops, .ref o0_how, .ref o0_triedOn, .ref o0_dropped, .ref o0_heldOn])), (aI ca o0_dents 10 f_o0_dents), (aI ca o0_drops 10 f_o0_drops), (aI ca o0_how 5 f_o0_how), (aI ca o0_triedOn 5 f_o0_triedOn), (aI ca o0_dropped 5 f_o0_dropped), (aI ca o0_heldOn 5 f_o0_heldOn)] H := hP
  have hD : va_D A [(h0, .inr (9, [.int o0_day, .int o0_sits, .int o0_holds, .int h0_trials, .int h0_triedToday, .ref h0_dents, .ref h0_drops, .ref h0_how, .ref h0_triedOn, .ref h0_dropped, .ref h0_heldOn])), (aI ca h0_dents 10 f_h0_dents), (aI ca h0_drops 10 f_h0_drops), (aI ca h0_how 5 f_h0_how), (aI ca h0_triedOn 5 f_h0_triedOn), (aI ca h0_dropped 5 f_h0_dropped), (aI ca h0_heldOn 5 f_h0_heldOn), (o0, .inr (9, [.int o0_day, .int o0_sits, .int o0_holds, .int o0_trials, .int 0, .ref o0_dents, .ref o0_drops, .ref o0_how, .ref o0_triedOn, .ref o0_dropped, .ref o0_heldOn])), (aI ca o0_dents 10 f_o0_dents), (aI ca o0_drops 10 f_o0_drops), (aI ca o0_how 5 f_o0_how), (aI ca o0_triedOn 5 f_o0_triedOn), (aI ca o0_dropped 5 f_o0_dropped), (aI ca o0_heldOn 5 f_o0_heldOn)] := hD
  refine lv_aload_n hx hb dX9_copyFrom_24 rfl (lv_at hl 0 rfl) ?_
  refine lv_aload_n hx hb dX9_copyFrom_25 rfl (lv_at hl 1 rfl) ?_
  refine va_get (D := D) (ci := 9) (v := .int o0_trials) (C := RX9) (T := TX9) (N := 11) hx hb hts k2 hown hK.1 hP 7 rfl rfl 3 (by decide) k5 (fun _ h9 => h9) rfl dX9_copyFrom_26 ?_
  refine va_put (D := D) (ci := 9) (v := .int o0_trials) (ty := .int) (C := RX9) (T := TX9) (N := 11) hx hb hts k2 tyX9 tyX9_ok nmX9 hown hK.1 hP hD hS 0 rfl rfl 3 (by decide) k5 (fun _ h9 => h9) rfl (by decide +kernel) rfl rfl (Nat.le_of_ble_eq_true rfl) dX9_copyFrom_29 (fun H locs hP hD hS => ?_)
  have hP : va_P D vwCl [(h0, .inr (9, [.int o0_day, .int o0_sits, .int o0_holds, .int o0_trials, .int h0_triedToday, .ref h0_dents, .ref h0_drops, .ref h0_how, .ref h0_triedOn, .ref h0_dropped, .ref h0_heldOn])), (aI ca h0_dents 10 f_h0_dents), (aI ca h0_drops 10 f_h0_drops), (aI ca h0_how 5 f_h0_how), (aI ca h0_triedOn 5 f_h0_triedOn), (aI ca h0_dropped 5 f_h0_dropped), (aI ca h0_heldOn 5 f_h0_heldOn), (o0, .inr (9, [.int o0_day, .int o0_sits, .int o0_holds, .int o0_trials, .int 0, .ref o0_dents, .ref o0_drops, .ref o0_how, .ref o0_triedOn, .ref o0_dropped, .ref o0_heldOn])), (aI ca o0_dents 10 f_o0_dents), (aI ca o0_drops 10 f_o0_drops), (aI ca o0_how 5 f_o0_how), (aI ca o0_triedOn 5 f_o0_triedOn), (aI ca o0_dropped 5 f_o0_dropped), (aI ca o0_heldOn 5 f_o0_heldOn)] H := hP
  have hD : va_D A [(h0, .inr (9, [.int o0_day, .int o0_sits, .int o0_holds, .int o0_trials, .int h0_triedToday, .ref h0_dents, .ref h0_drops, .ref h0_how, .ref h0_triedOn, .ref h0_dropped, .ref h0_heldOn])), (aI ca h0_dents 10 f_h0_dents), (aI ca h0_drops 10 f_h0_drops), (aI ca h0_how 5 f_h0_how), (aI ca h0_triedOn 5 f_h0_triedOn), (aI ca h0_dropped 5 f_h0_dropped), (aI ca h0_heldOn 5 f_h0_heldOn), (o0, .inr (9, [.int o0_day, .int o0_sits, .int o0_holds, .int o0_trials, .int 0, .ref o0_dents, .ref o0_drops, .ref o0_how, .ref o0_triedOn, .ref o0_dropped, .ref o0_heldOn])), (aI ca o0_dents 10 f_o0_dents), (aI ca o0_drops 10 f_o0_drops), (aI ca o0_how 5 f_o0_how), (aI ca o0_triedOn 5 f_o0_triedOn), (aI ca o0_dropped 5 f_o0_dropped), (aI ca o0_heldOn 5 f_o0_heldOn)] := hD
  refine lv_aload_n hx hb dX9_copyFrom_32 rfl (lv_at hl 0 rfl) ?_
  refine lv_aload_n hx hb dX9_copyFrom_33 rfl (lv_at hl 1 rfl) ?_
  refine va_get (D := D) (ci := 9) (v := .int 0) (C := RX9) (T := TX9) (N := 11) hx hb hts k2 hown hK.1 hP 7 rfl rfl 4 (by decide) k6 (fun _ h9 => h9) rfl dX9_copyFrom_34 ?_
  refine va_put (D := D) (ci := 9) (v := .int 0) (ty := .boolean) (C := RX9) (T := TX9) (N := 11) hx hb hts k2 tyX9 tyX9_ok nmX9 hown hK.1 hP hD hS 0 rfl rfl 4 (by decide) k6 (fun _ h9 => h9) rfl (by decide +kernel) (by decide) rfl (Nat.le_of_ble_eq_true rfl) dX9_copyFrom_37 (fun H locs hP hD hS => ?_)
  have hP : va_P D vwCl [(h0, .inr (9, [.int o0_day, .int o0_sits, .int o0_holds, .int o0_trials, .int 0, .ref h0_dents, .ref h0_drops, .ref h0_how, .ref h0_triedOn, .ref h0_dropped, .ref h0_heldOn])), (aI ca h0_dents 10 f_h0_dents), (aI ca h0_drops 10 f_h0_drops), (aI ca h0_how 5 f_h0_how), (aI ca h0_triedOn 5 f_h0_triedOn), (aI ca h0_dropped 5 f_h0_dropped), (aI ca h0_heldOn 5 f_h0_heldOn), (o0, .inr (9, [.int o0_day, .int o0_sits, .int o0_holds, .int o0_trials, .int 0, .ref o0_dents, .ref o0_drops, .ref o0_how, .ref o0_triedOn, .ref o0_dropped, .ref o0_heldOn])), (aI ca o0_dents 10 f_o0_dents), (aI ca o0_drops 10 f_o0_drops), (aI ca o0_how 5 f_o0_how), (aI ca o0_triedOn 5 f_o0_triedOn), (aI ca o0_dropped 5 f_o0_dropped), (aI ca o0_heldOn 5 f_o0_heldOn)] H := hP
  have hD : va_D A [(h0, .inr (9, [.int o0_day, .int o0_sits, .int o0_holds, .int o0_trials, .int 0, .ref h0_dents, .ref h0_drops, .ref h0_how, .ref h0_triedOn, .ref h0_dropped, .ref h0_heldOn])), (aI ca h0_dents 10 f_h0_dents), (aI ca h0_drops 10 f_h0_drops), (aI ca h0_how 5 f_h0_how), (aI ca h0_triedOn 5 f_h0_triedOn), (aI ca h0_dropped 5 f_h0_dropped), (aI ca h0_heldOn 5 f_h0_heldOn), (o0, .inr (9, [.int o0_day, .int o0_sits, .int o0_holds, .int o0_trials, .int 0, .ref o0_dents, .ref o0_drops, .ref o0_how, .ref o0_triedOn, .ref o0_dropped, .ref o0_heldOn])), (aI ca o0_dents 10 f_o0_dents), (aI ca o0_drops 10 f_o0_drops), (aI ca o0_how 5 f_o0_how), (aI ca o0_triedOn 5 f_o0_triedOn), (aI ca o0_dropped 5 f_o0_dropped), (aI ca o0_heldOn 5 f_o0_heldOn)] := hD
  refine lv_aload_n hx hb dX9_copyFrom_40 rfl (lv_at hl 1 rfl) ?_
  refine va_get (D := D) (ci := 9) (v := .ref o0_dents) (C := RX9) (T := TX9) (N := 11) hx hb hts k2 hown hK.1 hP 7 rfl rfl 5 (by decide) k7 (fun _ h9 => h9) rfl dX9_copyFrom_41 ?_
  refine lv_iconst (v := 0) hx hb dX9_copyFrom_44 (by decide) ?_
  refine lv_aload_n hx hb dX9_copyFrom_45 rfl (lv_at hl 0 rfl) ?_
  refine va_get (D := D) (ci := 9) (v := .ref h0_dents) (C := RX9) (T := TX9) (N := 11) hx hb hts k2 hown hK.1 hP 0 rfl rfl 5 (by decide) k7 (fun _ h9 => h9) rfl dX9_copyFrom_46 ?_
  refine lv_iconst (v := 0) hx hb dX9_copyFrom_49 (by decide) ?_
  refine lv_bipush (v := 10) hx hb dX9_copyFrom_50 (by decide) ?_
  refine va_copyi hx hb (by rw [hml]; exact hl.1.symm) hown k8 k9 k10 k11 hK.1 hP hD hS 8 1 0 0 rfl rfl rfl rfl rfl (by decide) (by decide) (by decide) (Nat.le_of_ble_eq_true rfl) (Nat.le_of_ble_eq_true rfl) (fun _ _ => rfl) (Nat.le_of_ble_eq_true rfl) (Nat.le_of_ble_eq_true rfl) dX9_copyFrom_52 (fun H locs hP hD hS => ?_)
  obtain ⟨g_1, eg_1⟩ : ∃ y : Nat → Int32, y = va_cpy f_o0_dents f_h0_dents (0 : Int32).toNatClampNeg (0 : Int32).toNatClampNeg (10 : Int32).toNatClampNeg := ⟨_, rfl⟩
  rw [← eg_1] at hP hD
  have hP : va_P D vwCl [(h0, .inr (9, [.int o0_day, .int o0_sits, .int o0_holds, .int o0_trials, .int 0, .ref h0_dents, .ref h0_drops, .ref h0_how, .ref h0_triedOn, .ref h0_dropped, .ref h0_heldOn])), (aI ca h0_dents 10 g_1), (aI ca h0_drops 10 f_h0_drops), (aI ca h0_how 5 f_h0_how), (aI ca h0_triedOn 5 f_h0_triedOn), (aI ca h0_dropped 5 f_h0_dropped), (aI ca h0_heldOn 5 f_h0_heldOn), (o0, .inr (9, [.int o0_day, .int o0_sits, .int o0_holds, .int o0_trials, .int 0, .ref o0_dents, .ref o0_drops, .ref o0_how, .ref o0_triedOn, .ref o0_dropped, .ref o0_heldOn])), (aI ca o0_dents 10 f_o0_dents), (aI ca o0_drops 10 f_o0_drops), (aI ca o0_how 5 f_o0_how), (aI ca o0_triedOn 5 f_o0_triedOn), (aI ca o0_dropped 5 f_o0_dropped), (aI ca o0_heldOn 5 f_o0_heldOn)] H := hP
  have hD : va_D A [(h0, .inr (9, [.int o0_day, .int o0_sits, .int o0_holds, .int o0_trials, .int 0, .ref h0_dents, .ref h0_drops, .ref h0_how, .ref h0_triedOn, .ref h0_dropped, .ref h0_heldOn])), (aI ca h0_dents 10 g_1), (aI ca h0_drops 10 f_h0_drops), (aI ca h0_how 5 f_h0_how), (aI ca h0_triedOn 5 f_h0_triedOn), (aI ca h0_dropped 5 f_h0_dropped), (aI ca h0_heldOn 5 f_h0_heldOn), (o0, .inr (9, [.int o0_day, .int o0_sits, .int o0_holds, .int o0_trials, .int 0, .ref o0_dents, .ref o0_drops, .ref o0_how, .ref o0_triedOn, .ref o0_dropped, .ref o0_heldOn])), (aI ca o0_dents 10 f_o0_dents), (aI ca o0_drops 10 f_o0_drops), (aI ca o0_how 5 f_o0_how), (aI ca o0_triedOn 5 f_o0_triedOn), (aI ca o0_dropped 5 f_o0_dropped), (aI ca o0_heldOn 5 f_o0_heldOn)] := hD
  refine lv_aload_n hx hb dX9_copyFrom_55 rfl (lv_at hl 1 rfl) ?_
  refine va_get (D := D) (ci := 9) (v := .ref o0_drops) (C := RX9) (T := TX9) (N := 11) hx hb hts k2 hown hK.1 hP 7 rfl rfl 6 (by decide) k12 (fun _ h9 => h9) rfl dX9_copyFrom_56 ?_
  refine lv_iconst (v := 0) hx hb dX9_copyFrom_59 (by decide) ?_
  refine lv_aload_n hx hb dX9_copyFrom_60 rfl (lv_at hl 0 rfl) ?_
  refine va_get (D := D) (ci := 9) (v := .ref h0_drops) (C := RX9) (T := TX9) (N := 11) hx hb hts k2 hown hK.1 hP 0 rfl rfl 6 (by decide) k12 (fun _ h9 => h9) rfl dX9_copyFrom_61 ?_
  refine lv_iconst (v := 0) hx hb dX9_copyFrom_64 (by decide) ?_
  refine lv_bipush (v := 10) hx hb dX9_copyFrom_65 (by decide) ?_
  refine va_copyi hx hb (by rw [hml]; exact hl.1.symm) hown k8 k9 k10 k11 hK.1 hP hD hS 9 2 0 0 rfl rfl rfl rfl rfl (by decide) (by decide) (by decide) (Nat.le_of_ble_eq_true rfl) (Nat.le_of_ble_eq_true rfl) (fun _ _ => rfl) (Nat.le_of_ble_eq_true rfl) (Nat.le_of_ble_eq_true rfl) dX9_copyFrom_67 (fun H locs hP hD hS => ?_)
  obtain ⟨g_2, eg_2⟩ : ∃ y : Nat → Int32, y = va_cpy f_o0_drops f_h0_drops (0 : Int32).toNatClampNeg (0 : Int32).toNatClampNeg (10 : Int32).toNatClampNeg := ⟨_, rfl⟩
  rw [← eg_2] at hP hD
  have hP : va_P D vwCl [(h0, .inr (9, [.int o0_day, .int o0_sits, .int o0_holds, .int o0_trials, .int 0, .ref h0_dents, .ref h0_drops, .ref h0_how, .ref h0_triedOn, .ref h0_dropped, .ref h0_heldOn])), (aI ca h0_dents 10 g_1), (aI ca h0_drops 10 g_2), (aI ca h0_how 5 f_h0_how), (aI ca h0_triedOn 5 f_h0_triedOn), (aI ca h0_dropped 5 f_h0_dropped), (aI ca h0_heldOn 5 f_h0_heldOn), (o0, .inr (9, [.int o0_day, .int o0_sits, .int o0_holds, .int o0_trials, .int 0, .ref o0_dents, .ref o0_drops, .ref o0_how, .ref o0_triedOn, .ref o0_dropped, .ref o0_heldOn])), (aI ca o0_dents 10 f_o0_dents), (aI ca o0_drops 10 f_o0_drops), (aI ca o0_how 5 f_o0_how), (aI ca o0_triedOn 5 f_o0_triedOn), (aI ca o0_dropped 5 f_o0_dropped), (aI ca o0_heldOn 5 f_o0_heldOn)] H := hP
  have hD : va_D A [(h0, .inr (9, [.int o0_day, .int o0_sits, .int o0_holds, .int o0_trials, .int 0, .ref h0_dents, .ref h0_drops, .ref h0_how, .ref h0_triedOn, .ref h0_dropped, .ref h0_heldOn])), (aI ca h0_dents 10 g_1), (aI ca h0_drops 10 g_2), (aI ca h0_how 5 f_h0_how), (aI ca h0_triedOn 5 f_h0_triedOn), (aI ca h0_dropped 5 f_h0_dropped), (aI ca h0_heldOn 5 f_h0_heldOn), (o0, .inr (9, [.int o0_day, .int o0_sits, .int o0_holds, .int o0_trials, .int 0, .ref o0_dents, .ref o0_drops, .ref o0_how, .ref o0_triedOn, .ref o0_dropped, .ref o0_heldOn])), (aI ca o0_dents 10 f_o0_dents), (aI ca o0_drops 10 f_o0_drops), (aI ca o0_how 5 f_o0_how), (aI ca o0_triedOn 5 f_o0_triedOn), (aI ca o0_dropped 5 f_o0_dropped), (aI ca o0_heldOn 5 f_o0_heldOn)] := hD
  refine lv_aload_n hx hb dX9_copyFrom_70 rfl (lv_at hl 1 rfl) ?_
  refine va_get (D := D) (ci := 9) (v := .ref o0_how) (C := RX9) (T := TX9) (N := 11) hx hb hts k2 hown hK.1 hP 7 rfl rfl 7 (by decide) k13 (fun _ h9 => h9) rfl dX9_copyFrom_71 ?_
  refine lv_iconst (v := 0) hx hb dX9_copyFrom_74 (by decide) ?_
  refine lv_aload_n hx hb dX9_copyFrom_75 rfl (lv_at hl 0 rfl) ?_
  refine va_get (D := D) (ci := 9) (v := .ref h0_how) (C := RX9) (T := TX9) (N := 11) hx hb hts k2 hown hK.1 hP 0 rfl rfl 7 (by decide) k13 (fun _ h9 => h9) rfl dX9_copyFrom_76 ?_
  refine lv_iconst (v := 0) hx hb dX9_copyFrom_79 (by decide) ?_
  refine lv_iconst (v := 5) hx hb dX9_copyFrom_80 (by decide) ?_
  refine va_copyi hx hb (by rw [hml]; exact hl.1.symm) hown k8 k9 k10 k11 hK.1 hP hD hS 10 3 0 0 rfl rfl rfl rfl rfl (by decide) (by decide) (by decide) (Nat.le_of_ble_eq_true rfl) (Nat.le_of_ble_eq_true rfl) (fun _ _ => rfl) (Nat.le_of_ble_eq_true rfl) (Nat.le_of_ble_eq_true rfl) dX9_copyFrom_81 (fun H locs hP hD hS => ?_)
  obtain ⟨g_3, eg_3⟩ : ∃ y : Nat → Int32, y = va_cpy f_o0_how f_h0_how (0 : Int32).toNatClampNeg (0 : Int32).toNatClampNeg (5 : Int32).toNatClampNeg := ⟨_, rfl⟩
  rw [← eg_3] at hP hD
  have hP : va_P D vwCl [(h0, .inr (9, [.int o0_day, .int o0_sits, .int o0_holds, .int o0_trials, .int 0, .ref h0_dents, .ref h0_drops, .ref h0_how, .ref h0_triedOn, .ref h0_dropped, .ref h0_heldOn])), (aI ca h0_dents 10 g_1), (aI ca h0_drops 10 g_2), (aI ca h0_how 5 g_3), (aI ca h0_triedOn 5 f_h0_triedOn), (aI ca h0_dropped 5 f_h0_dropped), (aI ca h0_heldOn 5 f_h0_heldOn), (o0, .inr (9, [.int o0_day, .int o0_sits, .int o0_holds, .int o0_trials, .int 0, .ref o0_dents, .ref o0_drops, .ref o0_how, .ref o0_triedOn, .ref o0_dropped, .ref o0_heldOn])), (aI ca o0_dents 10 f_o0_dents), (aI ca o0_drops 10 f_o0_drops), (aI ca o0_how 5 f_o0_how), (aI ca o0_triedOn 5 f_o0_triedOn), (aI ca o0_dropped 5 f_o0_dropped), (aI ca o0_heldOn 5 f_o0_heldOn)] H := hP
  have hD : va_D A [(h0, .inr (9, [.int o0_day, .int o0_sits, .int o0_holds, .int o0_trials, .int 0, .ref h0_dents, .ref h0_drops, .ref h0_how, .ref h0_triedOn, .ref h0_dropped, .ref h0_heldOn])), (aI ca h0_dents 10 g_1), (aI ca h0_drops 10 g_2), (aI ca h0_how 5 g_3), (aI ca h0_triedOn 5 f_h0_triedOn), (aI ca h0_dropped 5 f_h0_dropped), (aI ca h0_heldOn 5 f_h0_heldOn), (o0, .inr (9, [.int o0_day, .int o0_sits, .int o0_holds, .int o0_trials, .int 0, .ref o0_dents, .ref o0_drops, .ref o0_how, .ref o0_triedOn, .ref o0_dropped, .ref o0_heldOn])), (aI ca o0_dents 10 f_o0_dents), (aI ca o0_drops 10 f_o0_drops), (aI ca o0_how 5 f_o0_how), (aI ca o0_triedOn 5 f_o0_triedOn), (aI ca o0_dropped 5 f_o0_dropped), (aI ca o0_heldOn 5 f_o0_heldOn)] := hD
  refine lv_aload_n hx hb dX9_copyFrom_84 rfl (lv_at hl 1 rfl) ?_
  refine va_get (D := D) (ci := 9) (v := .ref o0_triedOn) (C := RX9) (T := TX9) (N := 11) hx hb hts k2 hown hK.1 hP 7 rfl rfl 8 (by decide) k14 (fun _ h9 => h9) rfl dX9_copyFrom_85 ?_
  refine lv_iconst (v := 0) hx hb dX9_copyFrom_88 (by decide) ?_
  refine lv_aload_n hx hb dX9_copyFrom_89 rfl (lv_at hl 0 rfl) ?_
  refine va_get (D := D) (ci := 9) (v := .ref h0_triedOn) (C := RX9) (T := TX9) (N := 11) hx hb hts k2 hown hK.1 hP 0 rfl rfl 8 (by decide) k14 (fun _ h9 => h9) rfl dX9_copyFrom_90 ?_
  refine lv_iconst (v := 0) hx hb dX9_copyFrom_93 (by decide) ?_
  refine lv_iconst (v := 5) hx hb dX9_copyFrom_94 (by decide) ?_
  refine va_copyi hx hb (by rw [hml]; exact hl.1.symm) hown k8 k9 k10 k11 hK.1 hP hD hS 11 4 0 0 rfl rfl rfl rfl rfl (by decide) (by decide) (by decide) (Nat.le_of_ble_eq_true rfl) (Nat.le_of_ble_eq_true rfl) (fun _ _ => rfl) (Nat.le_of_ble_eq_true rfl) (Nat.le_of_ble_eq_true rfl) dX9_copyFrom_95 (fun H locs hP hD hS => ?_)
  obtain ⟨g_4, eg_4⟩ : ∃ y : Nat → Int32, y = va_cpy f_o0_triedOn f_h0_triedOn (0 : Int32).toNatClampNeg (0 : Int32).toNatClampNeg (5 : Int32).toNatClampNeg := ⟨_, rfl⟩
  rw [← eg_4] at hP hD
  have hP : va_P D vwCl [(h0, .inr (9, [.int o0_day, .int o0_sits, .int o0_holds, .int o0_trials, .int 0, .ref h0_dents, .ref h0_drops, .ref h0_how, .ref h0_triedOn, .ref h0_dropped, .ref h0_heldOn])), (aI ca h0_dents 10 g_1), (aI ca h0_drops 10 g_2), (aI ca h0_how 5 g_3), (aI ca h0_triedOn 5 g_4), (aI ca h0_dropped 5 f_h0_dropped), (aI ca h0_heldOn 5 f_h0_heldOn), (o0, .inr (9, [.int o0_day, .int o0_sits, .int o0_holds, .int o0_trials, .int 0, .ref o0_dents, .ref o0_drops, .ref o0_how, .ref o0_triedOn, .ref o0_dropped, .ref o0_heldOn])), (aI ca o0_dents 10 f_o0_dents), (aI ca o0_drops 10 f_o0_drops), (aI ca o0_how 5 f_o0_how), (aI ca o0_triedOn 5 f_o0_triedOn), (aI ca o0_dropped 5 f_o0_dropped), (aI ca o0_heldOn 5 f_o0_heldOn)] H := hP
  have hD : va_D A [(h0, .inr (9, [.int o0_day, .int o0_sits, .int o0_holds, .int o0_trials, .int 0, .ref h0_dents, .ref h0_drops, .ref h0_how, .ref h0_triedOn, .ref h0_dropped, .ref h0_heldOn])), (aI ca h0_dents 10 g_1), (aI ca h0_drops 10 g_2), (aI ca h0_how 5 g_3), (aI ca h0_triedOn 5 g_4), (aI ca h0_dropped 5 f_h0_dropped), (aI ca h0_heldOn 5 f_h0_heldOn), (o0, .inr (9, [.int o0_day, .int o0_sits, .int o0_holds, .int o0_trials, .int 0, .ref o0_dents, .ref o0_drops, .ref o0_how, .ref o0_triedOn, .ref o0_dropped, .ref o0_heldOn])), (aI ca o0_dents 10 f_o0_dents), (aI ca o0_drops 10 f_o0_drops), (aI ca o0_how 5 f_o0_how), (aI ca o0_triedOn 5 f_o0_triedOn), (aI ca o0_dropped 5 f_o0_dropped), (aI ca o0_heldOn 5 f_o0_heldOn)] := hD
  refine lv_aload_n hx hb dX9_copyFrom_98 rfl (lv_at hl 1 rfl) ?_
  refine va_get (D := D) (ci := 9) (v := .ref o0_dropped) (C := RX9) (T := TX9) (N := 11) hx hb hts k2 hown hK.1 hP 7 rfl rfl 9 (by decide) k15 (fun _ h9 => h9) rfl dX9_copyFrom_99 ?_
  refine lv_iconst (v := 0) hx hb dX9_copyFrom_102 (by decide) ?_
  refine lv_aload_n hx hb dX9_copyFrom_103 rfl (lv_at hl 0 rfl) ?_
  refine va_get (D := D) (ci := 9) (v := .ref h0_dropped) (C := RX9) (T := TX9) (N := 11) hx hb hts k2 hown hK.1 hP 0 rfl rfl 9 (by decide) k15 (fun _ h9 => h9) rfl dX9_copyFrom_104 ?_
  refine lv_iconst (v := 0) hx hb dX9_copyFrom_107 (by decide) ?_
  refine lv_iconst (v := 5) hx hb dX9_copyFrom_108 (by decide) ?_
  refine va_copyi hx hb (by rw [hml]; exact hl.1.symm) hown k8 k9 k10 k11 hK.1 hP hD hS 12 5 0 0 rfl rfl rfl rfl rfl (by decide) (by decide) (by decide) (Nat.le_of_ble_eq_true rfl) (Nat.le_of_ble_eq_true rfl) (fun _ _ => rfl) (Nat.le_of_ble_eq_true rfl) (Nat.le_of_ble_eq_true rfl) dX9_copyFrom_109 (fun H locs hP hD hS => ?_)
  obtain ⟨g_5, eg_5⟩ : ∃ y : Nat → Int32, y = va_cpy f_o0_dropped f_h0_dropped (0 : Int32).toNatClampNeg (0 : Int32).toNatClampNeg (5 : Int32).toNatClampNeg := ⟨_, rfl⟩
  rw [← eg_5] at hP hD
  have hP : va_P D vwCl [(h0, .inr (9, [.int o0_day, .int o0_sits, .int o0_holds, .int o0_trials, .int 0, .ref h0_dents, .ref h0_drops, .ref h0_how, .ref h0_triedOn, .ref h0_dropped, .ref h0_heldOn])), (aI ca h0_dents 10 g_1), (aI ca h0_drops 10 g_2), (aI ca h0_how 5 g_3), (aI ca h0_triedOn 5 g_4), (aI ca h0_dropped 5 g_5), (aI ca h0_heldOn 5 f_h0_heldOn), (o0, .inr (9, [.int o0_day, .int o0_sits, .int o0_holds, .int o0_trials, .int 0, .ref o0_dents, .ref o0_drops, .ref o0_how, .ref o0_triedOn, .ref o0_dropped, .ref o0_heldOn])), (aI ca o0_dents 10 f_o0_dents), (aI ca o0_drops 10 f_o0_drops), (aI ca o0_how 5 f_o0_how), (aI ca o0_triedOn 5 f_o0_triedOn), (aI ca o0_dropped 5 f_o0_dropped), (aI ca o0_heldOn 5 f_o0_heldOn)] H := hP
  have hD : va_D A [(h0, .inr (9, [.int o0_day, .int o0_sits, .int o0_holds, .int o0_trials, .int 0, .ref h0_dents, .ref h0_drops, .ref h0_how, .ref h0_triedOn, .ref h0_dropped, .ref h0_heldOn])), (aI ca h0_dents 10 g_1), (aI ca h0_drops 10 g_2), (aI ca h0_how 5 g_3), (aI ca h0_triedOn 5 g_4), (aI ca h0_dropped 5 g_5), (aI ca h0_heldOn 5 f_h0_heldOn), (o0, .inr (9, [.int o0_day, .int o0_sits, .int o0_holds, .int o0_trials, .int 0, .ref o0_dents, .ref o0_drops, .ref o0_how, .ref o0_triedOn, .ref o0_dropped, .ref o0_heldOn])), (aI ca o0_dents 10 f_o0_dents), (aI ca o0_drops 10 f_o0_drops), (aI ca o0_how 5 f_o0_how), (aI ca o0_triedOn 5 f_o0_triedOn), (aI ca o0_dropped 5 f_o0_dropped), (aI ca o0_heldOn 5 f_o0_heldOn)] := hD
  refine lv_aload_n hx hb dX9_copyFrom_112 rfl (lv_at hl 1 rfl) ?_
  refine va_get (D := D) (ci := 9) (v := .ref o0_heldOn) (C := RX9) (T := TX9) (N := 11) hx hb hts k2 hown hK.1 hP 7 rfl rfl 10 (by decide) k16 (fun _ h9 => h9) rfl dX9_copyFrom_113 ?_
  refine lv_iconst (v := 0) hx hb dX9_copyFrom_116 (by decide) ?_
  refine lv_aload_n hx hb dX9_copyFrom_117 rfl (lv_at hl 0 rfl) ?_
  refine va_get (D := D) (ci := 9) (v := .ref h0_heldOn) (C := RX9) (T := TX9) (N := 11) hx hb hts k2 hown hK.1 hP 0 rfl rfl 10 (by decide) k16 (fun _ h9 => h9) rfl dX9_copyFrom_118 ?_
  refine lv_iconst (v := 0) hx hb dX9_copyFrom_121 (by decide) ?_
  refine lv_iconst (v := 5) hx hb dX9_copyFrom_122 (by decide) ?_
  refine va_copyi hx hb (by rw [hml]; exact hl.1.symm) hown k8 k9 k10 k11 hK.1 hP hD hS 13 6 0 0 rfl rfl rfl rfl rfl (by decide) (by decide) (by decide) (Nat.le_of_ble_eq_true rfl) (Nat.le_of_ble_eq_true rfl) (fun _ _ => rfl) (Nat.le_of_ble_eq_true rfl) (Nat.le_of_ble_eq_true rfl) dX9_copyFrom_123 (fun H locs hP hD hS => ?_)
  obtain ⟨g_6, eg_6⟩ : ∃ y : Nat → Int32, y = va_cpy f_o0_heldOn f_h0_heldOn (0 : Int32).toNatClampNeg (0 : Int32).toNatClampNeg (5 : Int32).toNatClampNeg := ⟨_, rfl⟩
  rw [← eg_6] at hP hD
  have hP : va_P D vwCl [(h0, .inr (9, [.int o0_day, .int o0_sits, .int o0_holds, .int o0_trials, .int 0, .ref h0_dents, .ref h0_drops, .ref h0_how, .ref h0_triedOn, .ref h0_dropped, .ref h0_heldOn])), (aI ca h0_dents 10 g_1), (aI ca h0_drops 10 g_2), (aI ca h0_how 5 g_3), (aI ca h0_triedOn 5 g_4), (aI ca h0_dropped 5 g_5), (aI ca h0_heldOn 5 g_6), (o0, .inr (9, [.int o0_day, .int o0_sits, .int o0_holds, .int o0_trials, .int 0, .ref o0_dents, .ref o0_drops, .ref o0_how, .ref o0_triedOn, .ref o0_dropped, .ref o0_heldOn])), (aI ca o0_dents 10 f_o0_dents), (aI ca o0_drops 10 f_o0_drops), (aI ca o0_how 5 f_o0_how), (aI ca o0_triedOn 5 f_o0_triedOn), (aI ca o0_dropped 5 f_o0_dropped), (aI ca o0_heldOn 5 f_o0_heldOn)] H := hP
  have hD : va_D A [(h0, .inr (9, [.int o0_day, .int o0_sits, .int o0_holds, .int o0_trials, .int 0, .ref h0_dents, .ref h0_drops, .ref h0_how, .ref h0_triedOn, .ref h0_dropped, .ref h0_heldOn])), (aI ca h0_dents 10 g_1), (aI ca h0_drops 10 g_2), (aI ca h0_how 5 g_3), (aI ca h0_triedOn 5 g_4), (aI ca h0_dropped 5 g_5), (aI ca h0_heldOn 5 g_6), (o0, .inr (9, [.int o0_day, .int o0_sits, .int o0_holds, .int o0_trials, .int 0, .ref o0_dents, .ref o0_drops, .ref o0_how, .ref o0_triedOn, .ref o0_dropped, .ref o0_heldOn])), (aI ca o0_dents 10 f_o0_dents), (aI ca o0_drops 10 f_o0_drops), (aI ca o0_how 5 f_o0_how), (aI ca o0_triedOn 5 f_o0_triedOn), (aI ca o0_dropped 5 f_o0_dropped), (aI ca o0_heldOn 5 f_o0_heldOn)] := hD
  exact oE_v hx hb hr hlocks hP hD hS (g_1, g_2, g_3, g_4, g_5, g_6) [0, 1, 2, 3, 4, 5, 6, 7, 8, 9, 10, 11, 12, 13] rfl (by decide) trivial (Nat.le_of_ble_eq_true rfl) (Nat.le_of_ble_eq_true rfl) dX9_copyFrom_126
theorem dX7_copyFrom_0 : decode cX7_copyFrom 0 = .ok (.aload_n 0, 1) := by decide +kernel
theorem dX7_copyFrom_1 : decode cX7_copyFrom 1 = .ok (.aload_n 1, 1) := by decide +kernel
theorem dX7_copyFrom_2 : decode cX7_copyFrom 2 = .ok (.getfield 27, 3) := by decide +kernel
theorem dX7_copyFrom_5 : decode cX7_copyFrom 5 = .ok (.putfield 27, 3) := by decide +kernel
theorem dX7_copyFrom_8 : decode cX7_copyFrom 8 = .ok (.aload_n 0, 1) := by decide +kernel
theorem dX7_copyFrom_9 : decode cX7_copyFrom 9 = .ok (.aload_n 1, 1) := by decide +kernel
theorem dX7_copyFrom_10 : decode cX7_copyFrom 10 = .ok (.getfield 31, 3) := by decide +kernel
theorem dX7_copyFrom_13 : decode cX7_copyFrom 13 = .ok (.putfield 31, 3) := by decide +kernel
theorem dX7_copyFrom_16 : decode cX7_copyFrom 16 = .ok (.iconst 0, 1) := by decide +kernel
theorem dX7_copyFrom_17 : decode cX7_copyFrom 17 = .ok (.istore_n 2, 1) := by decide +kernel
theorem dX7_copyFrom_18 : decode cX7_copyFrom 18 = .ok (.iload_n 2, 1) := by decide +kernel
theorem dX7_copyFrom_19 : decode cX7_copyFrom 19 = .ok (.bipush 40, 2) := by decide +kernel
theorem dX7_copyFrom_21 : decode cX7_copyFrom 21 = .ok (.if_icmp .ge 45, 3) := by decide +kernel
theorem dX7_copyFrom_24 : decode cX7_copyFrom 24 = .ok (.aload_n 0, 1) := by decide +kernel
theorem dX7_copyFrom_25 : decode cX7_copyFrom 25 = .ok (.getfield 13, 3) := by decide +kernel
theorem dX7_copyFrom_28 : decode cX7_copyFrom 28 = .ok (.iload_n 2, 1) := by decide +kernel
theorem dX7_copyFrom_29 : decode cX7_copyFrom 29 = .ok (.aload_n 1, 1) := by decide +kernel
theorem dX7_copyFrom_30 : decode cX7_copyFrom 30 = .ok (.getfield 13, 3) := by decide +kernel
theorem dX7_copyFrom_33 : decode cX7_copyFrom 33 = .ok (.iload_n 2, 1) := by decide +kernel
theorem dX7_copyFrom_34 : decode cX7_copyFrom 34 = .ok (.aaload, 1) := by decide +kernel
theorem dX7_copyFrom_35 : decode cX7_copyFrom 35 = .ok (.aastore, 1) := by decide +kernel
theorem dX7_copyFrom_36 : decode cX7_copyFrom 36 = .ok (.aload_n 0, 1) := by decide +kernel
theorem dX7_copyFrom_37 : decode cX7_copyFrom 37 = .ok (.getfield 17, 3) := by decide +kernel
theorem dX7_copyFrom_40 : decode cX7_copyFrom 40 = .ok (.iload_n 2, 1) := by decide +kernel
theorem dX7_copyFrom_41 : decode cX7_copyFrom 41 = .ok (.aload_n 1, 1) := by decide +kernel
theorem dX7_copyFrom_42 : decode cX7_copyFrom 42 = .ok (.getfield 17, 3) := by decide +kernel
theorem dX7_copyFrom_45 : decode cX7_copyFrom 45 = .ok (.iload_n 2, 1) := by decide +kernel
theorem dX7_copyFrom_46 : decode cX7_copyFrom 46 = .ok (.iaload, 1) := by decide +kernel
theorem dX7_copyFrom_47 : decode cX7_copyFrom 47 = .ok (.iastore, 1) := by decide +kernel
theorem dX7_copyFrom_48 : decode cX7_copyFrom 48 = .ok (.aload_n 0, 1) := by decide +kernel
theorem dX7_copyFrom_49 : decode cX7_copyFrom 49 = .ok (.getfield 21, 3) := by decide +kernel
theorem dX7_copyFrom_52 : decode cX7_copyFrom 52 = .ok (.iload_n 2, 1) := by decide +kernel
theorem dX7_copyFrom_53 : decode cX7_copyFrom 53 = .ok (.aload_n 1, 1) := by decide +kernel
theorem dX7_copyFrom_54 : decode cX7_copyFrom 54 = .ok (.getfield 21, 3) := by decide +kernel
theorem dX7_copyFrom_57 : decode cX7_copyFrom 57 = .ok (.iload_n 2, 1) := by decide +kernel
theorem dX7_copyFrom_58 : decode cX7_copyFrom 58 = .ok (.iaload, 1) := by decide +kernel
theorem dX7_copyFrom_59 : decode cX7_copyFrom 59 = .ok (.iastore, 1) := by decide +kernel
theorem dX7_copyFrom_60 : decode cX7_copyFrom 60 = .ok (.iinc 2 1, 3) := by decide +kernel
theorem dX7_copyFrom_63 : decode cX7_copyFrom 63 = .ok (.goto (-45), 3) := by decide +kernel
theorem dX7_copyFrom_66 : decode cX7_copyFrom 66 = .ok (.return_, 1) := by decide +kernel
set_option maxHeartbeats 4000000 in
set_option maxRecDepth 100000 in
theorem c_X7_copyFrom (l : Launch) (D : va_G) (ca : Nat → ClassId) (sz : Nat) (h0 : Nat) (o0 : Nat) (h0_present : Int32) (h0_steps : Int32) (h0_word : Nat) (h0_first : Nat) (h0_second : Nat) (h0_sets : Nat) (f_h0_word : Nat → Option Nat) (f_h0_first : Nat → Int32) (f_h0_second : Nat → Int32) (o0_steps : Int32) (o0_word : Nat) (o0_first : Nat) (o0_second : Nat) (o0_sets : Nat) (f_o0_first : Nat → Int32) (f_o0_second : Nat → Int32)  : oMet l yX7_copyFrom wsX7_copyFrom ({ frames := 0, cells := 0, slots := 0, locals := 0 } : Room) [.ref h0, .ref o0] D ca sz [(h0, .inr (7, [.int h0_present, .int h0_steps, .ref h0_word, .ref h0_first, .ref h0_second, .ref h0_sets])), (aW ca h0_word 40 f_h0_word), (aI ca h0_first 40 f_h0_first), (aI ca h0_second 40 f_h0_second), (o0, .inr (7, [.int 0, .int o0_steps, .ref o0_word, .ref o0_first, .ref o0_second, .ref o0_sets])), (aW ca o0_word 40 (fun _ => none)), (aI ca o0_first 40 f_o0_first), (aI ca o0_second 40 f_o0_second)] (oQv D (fun (u : (Nat → Option Nat) × (Nat → Int32) × (Nat → Int32)) => True) (fun (u : (Nat → Option Nat) × (Nat → Int32) × (Nat → Int32)) => [(h0, .inr (7, [.int 0, .int o0_steps, .ref h0_word, .ref h0_first, .ref h0_second, .ref h0_sets])), (aW ca h0_word 40 u.1), (aI ca h0_first 40 u.2.1), (aI ca h0_second 40 u.2.2), (o0, .inr (7, [.int 0, .int o0_steps, .ref o0_word, .ref o0_first, .ref o0_second, .ref o0_sets])), (aW ca o0_word 40 (fun _ => none)), (aI ca o0_first 40 f_o0_first), (aI ca o0_second 40 f_o0_second)])) 0 0 := by
  refine oM (cc := cX7_copyFrom) (maxL := 3) (ret := none) (by decide) rfl (Nat.le_of_ble_eq_true rfl) [(0, .ref h0), (1, .ref o0)] rfl ?_
  intro p e s m below meth c A H locs ls hx hb hr hml hts hown hlocks hin hK hP hD hA hS hl
  have hown : s.vm.findClass RX7 = some m.cls := hown
  have k1 := hts (.fieldLink RX7 27 "LidCourt$Saying" "present" "Z") (by decide +kernel)
  have k2 : ∀ w ∈ wsX70, w ∈ wsX7_copyFrom := fun _ h => List.mem_cons_of_mem _ (List.mem_append_right _ h)
  have k3 := hts (.fieldLink RX7 31 "LidCourt$Saying" "steps" "I") (by decide +kernel)
  have k4 := hts (.fieldLink RX7 13 "LidCourt$Saying" "word" "[LLidCourt$Word;") (by decide +kernel)
  have k5 := hts (.fieldLink RX7 17 "LidCourt$Saying" "first" "[I") (by decide +kernel)
  have k6 := hts (.fieldLink RX7 21 "LidCourt$Saying" "second" "[I") (by decide +kernel)
  refine lv_aload_n hx hb dX7_copyFrom_0 rfl (lv_at hl 0 rfl) ?_
  refine lv_aload_n hx hb dX7_copyFrom_1 rfl (lv_at hl 1 rfl) ?_
  refine va_get (D := D) (ci := 7) (v := .int 0) (C := RX7) (T := TX7) (N := 6) hx hb hts k2 hown hK.1 hP 4 rfl rfl 0 (by decide) k1 (fun _ h9 => h9) rfl dX7_copyFrom_2 ?_
  refine va_put (D := D) (ci := 7) (v := .int 0) (ty := .boolean) (C := RX7) (T := TX7) (N := 6) hx hb hts k2 tyX7 tyX7_ok nmX7 hown hK.1 hP hD hS 0 rfl rfl 0 (by decide) k1 (fun _ h9 => h9) rfl (by decide +kernel) (by decide) rfl (Nat.le_of_ble_eq_true rfl) dX7_copyFrom_5 (fun H locs hP hD hS => ?_)
  have hP : va_P D vwCl [(h0, .inr (7, [.int 0, .int h0_steps, .ref h0_word, .ref h0_first, .ref h0_second, .ref h0_sets])), (aW ca h0_word 40 f_h0_word), (aI ca h0_first 40 f_h0_first), (aI ca h0_second 40 f_h0_second), (o0, .inr (7, [.int 0, .int o0_steps, .ref o0_word, .ref o0_first, .ref o0_second, .ref o0_sets])), (aW ca o0_word 40 (fun _ => none)), (aI ca o0_first 40 f_o0_first), (aI ca o0_second 40 f_o0_second)] H := hP
  have hD : va_D A [(h0, .inr (7, [.int 0, .int h0_steps, .ref h0_word, .ref h0_first, .ref h0_second, .ref h0_sets])), (aW ca h0_word 40 f_h0_word), (aI ca h0_first 40 f_h0_first), (aI ca h0_second 40 f_h0_second), (o0, .inr (7, [.int 0, .int o0_steps, .ref o0_word, .ref o0_first, .ref o0_second, .ref o0_sets])), (aW ca o0_word 40 (fun _ => none)), (aI ca o0_first 40 f_o0_first), (aI ca o0_second 40 f_o0_second)] := hD
  refine lv_aload_n hx hb dX7_copyFrom_8 rfl (lv_at hl 0 rfl) ?_
  refine lv_aload_n hx hb dX7_copyFrom_9 rfl (lv_at hl 1 rfl) ?_
  refine va_get (D := D) (ci := 7) (v := .int o0_steps) (C := RX7) (T := TX7) (N := 6) hx hb hts k2 hown hK.1 hP 4 rfl rfl 1 (by decide) k3 (fun _ h9 => h9) rfl dX7_copyFrom_10 ?_
  refine va_put (D := D) (ci := 7) (v := .int o0_steps) (ty := .int) (C := RX7) (T := TX7) (N := 6) hx hb hts k2 tyX7 tyX7_ok nmX7 hown hK.1 hP hD hS 0 rfl rfl 1 (by decide) k3 (fun _ h9 => h9) rfl (by decide +kernel) rfl rfl (Nat.le_of_ble_eq_true rfl) dX7_copyFrom_13 (fun H locs hP hD hS => ?_)
  have hP : va_P D vwCl [(h0, .inr (7, [.int 0, .int o0_steps, .ref h0_word, .ref h0_first, .ref h0_second, .ref h0_sets])), (aW ca h0_word 40 f_h0_word), (aI ca h0_first 40 f_h0_first), (aI ca h0_second 40 f_h0_second), (o0, .inr (7, [.int 0, .int o0_steps, .ref o0_word, .ref o0_first, .ref o0_second, .ref o0_sets])), (aW ca o0_word 40 (fun _ => none)), (aI ca o0_first 40 f_o0_first), (aI ca o0_second 40 f_o0_second)] H := hP
  have hD : va_D A [(h0, .inr (7, [.int 0, .int o0_steps, .ref h0_word, .ref h0_first, .ref h0_second, .ref h0_sets])), (aW ca h0_word 40 f_h0_word), (aI ca h0_first 40 f_h0_first), (aI ca h0_second 40 f_h0_second), (o0, .inr (7, [.int 0, .int o0_steps, .ref o0_word, .ref o0_first, .ref o0_second, .ref o0_sets])), (aW ca o0_word 40 (fun _ => none)), (aI ca o0_first 40 f_o0_first), (aI ca o0_second 40 f_o0_second)] := hD
  refine lv_iconst (v := 0) hx hb dX7_copyFrom_16 (by decide) ?_
  refine lv_istore_n (lv' := [(2, .int 0), (0, .ref h0), (1, .ref o0)]) hx hb dX7_copyFrom_17 rfl hl (by decide) rfl (fun ls hl => ?_)
  have LP_3 : ∀ (n i_1 : Nat) (x_2 : Int32) (f_4 : Nat → Option Nat) (f_5 : Nat → Int32) (f_6 : Nat → Int32), i_1 ≤ 40 → 40 < i_1 + n → x_2 = nI i_1 → ∀ (H : Heap) (locs : List Loc) (ls : Array Slot), va_P D vwCl [(h0, .inr (7, [.int 0, .int o0_steps, .ref h0_word, .ref h0_first, .ref h0_second, .ref h0_sets])), (aW ca h0_word 40 f_4), (aI ca h0_first 40 f_5), (aI ca h0_second 40 f_6), (o0, .inr (7, [.int 0, .int o0_steps, .ref o0_word, .ref o0_first, .ref o0_second, .ref o0_sets])), (aW ca o0_word 40 (fun _ => none)), (aI ca o0_first 40 f_o0_first), (aI ca o0_second 40 f_o0_second)] H → va_D A [(h0, .inr (7, [.int 0, .int o0_steps, .ref h0_word, .ref h0_first, .ref h0_second, .ref h0_sets])), (aW ca h0_word 40 f_4), (aI ca h0_first 40 f_5), (aI ca h0_second 40 f_6), (o0, .inr (7, [.int 0, .int o0_steps, .ref o0_word, .ref o0_first, .ref o0_second, .ref o0_sets])), (aW ca o0_word 40 (fun _ => none)), (aI ca o0_first 40 f_o0_first), (aI ca o0_second 40 f_o0_second)] → va_S A s.heap H locs → lv_has ls 3 [(0, .ref h0), (1, .ref o0), (2, .int x_2)] → W p l e ({ frames := 0, cells := 0, slots := 0, locals := 0 } : Room) s m ([.ref h0, .ref o0] : List Value).toArray below meth c H locs 0 0 (MQ below ((oQv D (fun (u : (Nat → Option Nat) × (Nat → Int32) × (Nat → Int32)) => True) (fun (u : (Nat → Option Nat) × (Nat → Int32) × (Nat → Int32)) => [(h0, .inr (7, [.int 0, .int o0_steps, .ref h0_word, .ref h0_first, .ref h0_second, .ref h0_sets])), (aW ca h0_word 40 u.1), (aI ca h0_first 40 u.2.1), (aI ca h0_second 40 u.2.2), (o0, .inr (7, [.int 0, .int o0_steps, .ref o0_word, .ref o0_first, .ref o0_second, .ref o0_sets])), (aW ca o0_word 40 (fun _ => none)), (aI ca o0_first 40 f_o0_first), (aI ca o0_second 40 f_o0_second)])) A) ([.ref h0, .ref o0] : List Value).toArray s 0 0 A) (F0 m 18 ls []) := by
    intro n
    induction n with
    | zero => intro i_1 x_2 f_4 f_5 f_6 hi_i_1 hf_i_1; exact absurd hf_i_1 (by omega)
    | succ n ih =>
      intro i_1 x_2 f_4 f_5 f_6 hi_i_1 hf_i_1 ex_2  H locs ls hP hD hS hl
      refine lv_iload_n hx hb dX7_copyFrom_18 rfl (lv_at hl 2 rfl) ?_
      refine lv_bipush (v := 40) hx hb dX7_copyFrom_19 (by decide) ?_
      refine lv_icmp_ge (tgt := 66) hx hb dX7_copyFrom_21 (by decide) (fun c_7 => ?_) (fun c_7 => ?_)
      · skip
        have nc_7 : 40 ≤ i_1 := ole rfl ex_2 (by omega) (by omega) c_7
        exact oE_v hx hb hr hlocks hP hD hS (f_4, f_5, f_6) [0, 1, 2, 3, 4, 5, 6, 7] rfl (by decide) trivial (Nat.le_of_ble_eq_true rfl) (Nat.le_of_ble_eq_true rfl) dX7_copyFrom_66
      · skip
        have nc_7 : ¬ (40 ≤ i_1) := oleN rfl ex_2 (by omega) (by omega) c_7
        refine lv_aload_n hx hb dX7_copyFrom_24 rfl (lv_at hl 0 rfl) ?_
        refine va_get (D := D) (ci := 7) (v := .ref h0_word) (C := RX7) (T := TX7) (N := 6) hx hb hts k2 hown hK.1 hP 0 rfl rfl 2 (by decide) k4 (fun _ h9 => h9) rfl dX7_copyFrom_25 ?_
        refine lv_iload_n hx hb dX7_copyFrom_28 rfl (lv_at hl 2 rfl) ?_
        refine lv_aload_n hx hb dX7_copyFrom_29 rfl (lv_at hl 1 rfl) ?_
        refine va_get (D := D) (ci := 7) (v := .ref o0_word) (C := RX7) (T := TX7) (N := 6) hx hb hts k2 hown hK.1 hP 4 rfl rfl 2 (by decide) k4 (fun _ h9 => h9) rfl dX7_copyFrom_30 ?_
        refine lv_iload_n hx hb dX7_copyFrom_33 rfl (lv_at hl 2 rfl) ?_
        refine va_aldq hx hb hK.1 hP 5 6 rfl rfl (oin (k := i_1) (by omega) (by decide) ex_2) dX7_copyFrom_34 ?_
        refine otr .null rfl ?_
        refine va_astqN hx hb hK.1 hP hD hS 1 6 rfl rfl (oin (k := i_1) (by omega) (by decide) ex_2) dX7_copyFrom_35 (fun H locs hP hD hS => ?_)
        obtain ⟨g_8, eg_8⟩ : ∃ y : Nat → Option Nat, y = va_up f_4 (x_2 : Int32).toNatClampNeg none := ⟨_, rfl⟩
        rw [← eg_8] at hP hD
        have eg_8 : g_8 = va_up f_4 i_1 none := eg_8.trans (ozeQ f_4 i_1 none ex_2 (by omega))
        have hP : va_P D vwCl [(h0, .inr (7, [.int 0, .int o0_steps, .ref h0_word, .ref h0_first, .ref h0_second, .ref h0_sets])), (aW ca h0_word 40 g_8), (aI ca h0_first 40 f_5), (aI ca h0_second 40 f_6), (o0, .inr (7, [.int 0, .int o0_steps, .ref o0_word, .ref o0_first, .ref o0_second, .ref o0_sets])), (aW ca o0_word 40 (fun _ => none)), (aI ca o0_first 40 f_o0_first), (aI ca o0_second 40 f_o0_second)] H := hP
        have hD : va_D A [(h0, .inr (7, [.int 0, .int o0_steps, .ref h0_word, .ref h0_first, .ref h0_second, .ref h0_sets])), (aW ca h0_word 40 g_8), (aI ca h0_first 40 f_5), (aI ca h0_second 40 f_6), (o0, .inr (7, [.int 0, .int o0_steps, .ref o0_word, .ref o0_first, .ref o0_second, .ref o0_sets])), (aW ca o0_word 40 (fun _ => none)), (aI ca o0_first 40 f_o0_first), (aI ca o0_second 40 f_o0_second)] := hD
        refine lv_aload_n hx hb dX7_copyFrom_36 rfl (lv_at hl 0 rfl) ?_
        refine va_get (D := D) (ci := 7) (v := .ref h0_first) (C := RX7) (T := TX7) (N := 6) hx hb hts k2 hown hK.1 hP 0 rfl rfl 3 (by decide) k5 (fun _ h9 => h9) rfl dX7_copyFrom_37 ?_
        refine lv_iload_n hx hb dX7_copyFrom_40 rfl (lv_at hl 2 rfl) ?_
        refine lv_aload_n hx hb dX7_copyFrom_41 rfl (lv_at hl 1 rfl) ?_
        refine va_get (D := D) (ci := 7) (v := .ref o0_first) (C := RX7) (T := TX7) (N := 6) hx hb hts k2 hown hK.1 hP 4 rfl rfl 3 (by decide) k5 (fun _ h9 => h9) rfl dX7_copyFrom_42 ?_
        refine lv_iload_n hx hb dX7_copyFrom_45 rfl (lv_at hl 2 rfl) ?_
        refine va_iald hx hb hK.1 hP 6 0 rfl rfl (oin (k := i_1) (by omega) (by decide) ex_2) dX7_copyFrom_46 ?_
        refine oti (f_o0_first i_1) (oat f_o0_first i_1 (i := x_2) ex_2 (by omega)) ?_
        refine lv_topi (fun x_9 ex_9 => ?_)
        refine va_iast hx hb hK.1 hP hD hS 2 0 rfl rfl (oin (k := i_1) (by omega) (by decide) ex_2) dX7_copyFrom_47 (fun H locs hP hD hS => ?_)
        obtain ⟨g_10, eg_10⟩ : ∃ y : Nat → Int32, y = upd f_5 (x_2 : Int32).toNatClampNeg x_9 := ⟨_, rfl⟩
        rw [← eg_10] at hP hD
        have eg_10 : g_10 = upd f_5 i_1 x_9 := eg_10.trans (oze f_5 i_1 x_9 ex_2 (by omega))
        have hP : va_P D vwCl [(h0, .inr (7, [.int 0, .int o0_steps, .ref h0_word, .ref h0_first, .ref h0_second, .ref h0_sets])), (aW ca h0_word 40 g_8), (aI ca h0_first 40 g_10), (aI ca h0_second 40 f_6), (o0, .inr (7, [.int 0, .int o0_steps, .ref o0_word, .ref o0_first, .ref o0_second, .ref o0_sets])), (aW ca o0_word 40 (fun _ => none)), (aI ca o0_first 40 f_o0_first), (aI ca o0_second 40 f_o0_second)] H := hP
        have hD : va_D A [(h0, .inr (7, [.int 0, .int o0_steps, .ref h0_word, .ref h0_first, .ref h0_second, .ref h0_sets])), (aW ca h0_word 40 g_8), (aI ca h0_first 40 g_10), (aI ca h0_second 40 f_6), (o0, .inr (7, [.int 0, .int o0_steps, .ref o0_word, .ref o0_first, .ref o0_second, .ref o0_sets])), (aW ca o0_word 40 (fun _ => none)), (aI ca o0_first 40 f_o0_first), (aI ca o0_second 40 f_o0_second)] := hD
        refine lv_aload_n hx hb dX7_copyFrom_48 rfl (lv_at hl 0 rfl) ?_
        refine va_get (D := D) (ci := 7) (v := .ref h0_second) (C := RX7) (T := TX7) (N := 6) hx hb hts k2 hown hK.1 hP 0 rfl rfl 4 (by decide) k6 (fun _ h9 => h9) rfl dX7_copyFrom_49 ?_
        refine lv_iload_n hx hb dX7_copyFrom_52 rfl (lv_at hl 2 rfl) ?_
        refine lv_aload_n hx hb dX7_copyFrom_53 rfl (lv_at hl 1 rfl) ?_
        refine va_get (D := D) (ci := 7) (v := .ref o0_second) (C := RX7) (T := TX7) (N := 6) hx hb hts k2 hown hK.1 hP 4 rfl rfl 4 (by decide) k6 (fun _ h9 => h9) rfl dX7_copyFrom_54 ?_
        refine lv_iload_n hx hb dX7_copyFrom_57 rfl (lv_at hl 2 rfl) ?_
        refine va_iald hx hb hK.1 hP 7 0 rfl rfl (oin (k := i_1) (by omega) (by decide) ex_2) dX7_copyFrom_58 ?_
        refine oti (f_o0_second i_1) (oat f_o0_second i_1 (i := x_2) ex_2 (by omega)) ?_
        refine lv_topi (fun x_11 ex_11 => ?_)
        refine va_iast hx hb hK.1 hP hD hS 3 0 rfl rfl (oin (k := i_1) (by omega) (by decide) ex_2) dX7_copyFrom_59 (fun H locs hP hD hS => ?_)
        obtain ⟨g_12, eg_12⟩ : ∃ y : Nat → Int32, y = upd f_6 (x_2 : Int32).toNatClampNeg x_11 := ⟨_, rfl⟩
        rw [← eg_12] at hP hD
        have eg_12 : g_12 = upd f_6 i_1 x_11 := eg_12.trans (oze f_6 i_1 x_11 ex_2 (by omega))
        have hP : va_P D vwCl [(h0, .inr (7, [.int 0, .int o0_steps, .ref h0_word, .ref h0_first, .ref h0_second, .ref h0_sets])), (aW ca h0_word 40 g_8), (aI ca h0_first 40 g_10), (aI ca h0_second 40 g_12), (o0, .inr (7, [.int 0, .int o0_steps, .ref o0_word, .ref o0_first, .ref o0_second, .ref o0_sets])), (aW ca o0_word 40 (fun _ => none)), (aI ca o0_first 40 f_o0_first), (aI ca o0_second 40 f_o0_second)] H := hP
        have hD : va_D A [(h0, .inr (7, [.int 0, .int o0_steps, .ref h0_word, .ref h0_first, .ref h0_second, .ref h0_sets])), (aW ca h0_word 40 g_8), (aI ca h0_first 40 g_10), (aI ca h0_second 40 g_12), (o0, .inr (7, [.int 0, .int o0_steps, .ref o0_word, .ref o0_first, .ref o0_second, .ref o0_sets])), (aW ca o0_word 40 (fun _ => none)), (aI ca o0_first 40 f_o0_first), (aI ca o0_second 40 f_o0_second)] := hD
        obtain ⟨x_13, ex_13⟩ : ∃ y : Int32, y = x_2 + 1 := ⟨_, rfl⟩
        have nx_13 : x_13 = nI (i_1 + 1) := by rw [ex_13, ex_2]; exact nI_add _ 1
        refine lv_iinc (v := x_13) (lv' := [(2, .int x_13), (0, .ref h0), (1, .ref o0)]) hx hb dX7_copyFrom_60 hl (k := 2) rfl (by rw [ex_13]; rfl) (by decide) rfl (fun ls hl => ?_)
        refine lv_goto (tgt := 18) hx hb dX7_copyFrom_63 (by decide) ?_
        exact ih (i_1 + 1) x_13 g_8 g_10 g_12 (by omega) (by omega) nx_13  H locs ls (oPsub hP [0, 1, 2, 3, 4, 5, 6, 7] rfl) (hD.sub [0, 1, 2, 3, 4, 5, 6, 7] (by decide) rfl) hS (lv_sub hl [1, 2, 0] rfl)
  exact LP_3 (40 + 1) 0 0 f_h0_word f_h0_first f_h0_second (by omega) (by omega) rfl  H locs ls (oPsub hP [0, 1, 2, 3, 4, 5, 6, 7] rfl) (hD.sub [0, 1, 2, 3, 4, 5, 6, 7] (by decide) rfl) hS (lv_sub hl [1, 2, 0] rfl)
