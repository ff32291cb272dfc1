theorem dX6_init_0 : decode cX6_init 0 = .ok (.aload_n 0, 1) := by decide +kernel
theorem dX6_init_1 : decode cX6_init 1 = .ok (.invokespecial 3, 3) := by decide +kernel
theorem dX6_init_4 : decode cX6_init 4 = .ok (.aload_n 0, 1) := by decide +kernel
theorem dX6_init_5 : decode cX6_init 5 = .ok (.sipush 940, 3) := by decide +kernel
theorem dX6_init_8 : decode cX6_init 8 = .ok (.newarray .int, 2) := by decide +kernel
theorem dX6_init_10 : decode cX6_init 10 = .ok (.putfield 9, 3) := by decide +kernel
theorem dX6_init_13 : decode cX6_init 13 = .ok (.return_, 1) := by decide +kernel
set_option maxHeartbeats 4000000 in
set_option maxRecDepth 100000 in
theorem c_X6_init (l : Launch) (D : va_G) (ca : Nat → ClassId) (sz : Nat) (h0 : Nat)  : oMet l yX6_init wsX6_init ({ frames := 1, cells := 1, slots := 940, locals := 12 } : Room) [.ref h0] D ca sz [(h0, .inr (6, [.null, .int 0, .int 0, .int 0, .long 0, .int 0, .int 0, .int 0, .int 0, .int 0]))] (oQv D (fun (u : Nat) => True) (fun (u : Nat) => [(h0, .inr (6, [.ref u, .int 0, .int 0, .int 0, .long 0, .int 0, .int 0, .int 0, .int 0, .int 0])), (aI ca u 940 (fun _ => 0))])) 1 940 := by
  refine oM (cc := cX6_init) (maxL := 1) (ret := none) (by decide) rfl (Nat.le_of_ble_eq_true rfl) [(0, .ref h0)] rfl ?_
  intro p e s m below meth c A H locs ls hx hb hr hml hts hown hlocks hin hK hP hD hA hS hl
  have hown : s.vm.findClass RX6 = some m.cls := hown
  have k1 := hts (.methodLink RX6 3 objectInit) (by decide +kernel)
  have k2 := hts (.instanceMethod objectInit) (by decide +kernel)
  have k3 := hts (.code objectInit ⟨#[0xb1]⟩ 1 none) (by decide +kernel)
  have k4 := hts (.arrayClass .int) (by decide +kernel)
  have k5 := hts (.fieldLink RX6 9 "LidCourt$Reader" "bytes" "[I") (by decide +kernel)
  have k6 : ∀ w ∈ wsX60, w ∈ wsX6_init := fun _ h => List.mem_cons_of_mem _ (List.mem_append_right _ h)
  refine lv_aload_n hx hb dX6_init_0 rfl (lv_at hl 0 rfl) ?_
  refine W.objInit hx hb hown k1 k2 k3 rfl (by rw [hml]; exact hl.1) rfl dX6_init_1 (Nat.le_of_ble_eq_true rfl) (Nat.le_of_ble_eq_true rfl) ?_
  refine W.eq (g2 := F0 m 4 ls []) rfl ?_
  refine lv_aload_n hx hb dX6_init_4 rfl (lv_at hl 0 rfl) ?_
  refine lv_sipush (v := 940) hx hb dX6_init_5 (by decide) ?_
  refine onewa hx hb (atype := .int) (ty := .int) k4 rfl hK hP hD hS hA 0 rfl (n := 940) (N' := 940) (940, .inl (fun _ => 0)) (fun _ => rfl) (by decide) (by decide) (by decide) (Nat.le_of_ble_eq_true rfl) (Nat.le_of_ble_eq_true rfl) dX6_init_8 (fun q_1 H hP hD hS => ?_)
  have hP : va_P D vwCl [(h0, .inr (6, [.null, .int 0, .int 0, .int 0, .long 0, .int 0, .int 0, .int 0, .int 0, .int 0])), (aI ca q_1 940 (fun _ => 0))] H := hP
  have hD : va_D A [(h0, .inr (6, [.null, .int 0, .int 0, .int 0, .long 0, .int 0, .int 0, .int 0, .int 0, .int 0])), (aI ca q_1 940 (fun _ => 0))] := hD
  refine W.widen (k := 1) (n := 940) (Nat.le_of_ble_eq_true rfl) (Nat.le_of_ble_eq_true rfl) ?_
  refine va_putF (D := D) (ci := 6) (v := .ref q_1) (ty := .array .int) (C := RX6) (T := TX6) (N := 10) hx hb hts k6 tyX6 tyX6_ok nmX6 hown hK.1 hP hD hS 0 rfl rfl 0 (by decide) k5 (fun _ h9 => h9) rfl hin rfl (by decide +kernel) rfl rfl (Nat.le_of_ble_eq_true rfl) dX6_init_10 (fun H locs hP hD hS => ?_)
  have hP : va_P D vwCl [(h0, .inr (6, [.ref q_1, .int 0, .int 0, .int 0, .long 0, .int 0, .int 0, .int 0, .int 0, .int 0])), (aI ca q_1 940 (fun _ => 0))] H := hP
  have hD : va_D A [(h0, .inr (6, [.ref q_1, .int 0, .int 0, .int 0, .long 0, .int 0, .int 0, .int 0, .int 0, .int 0])), (aI ca q_1 940 (fun _ => 0))] := hD
  exact oE_v hx hb hr hlocks hP hD hS q_1 [0, 1] rfl (by decide) trivial (Nat.le_of_ble_eq_true rfl) (Nat.le_of_ble_eq_true rfl) dX6_init_13
theorem dX5_init_0 : decode cX5_init 0 = .ok (.aload_n 0, 1) := by decide +kernel
theorem dX5_init_1 : decode cX5_init 1 = .ok (.invokespecial 3, 3) := by decide +kernel
theorem dX5_init_4 : decode cX5_init 4 = .ok (.aload_n 0, 1) := by decide +kernel
theorem dX5_init_5 : decode cX5_init 5 = .ok (.bipush 10, 2) := by decide +kernel
theorem dX5_init_7 : decode cX5_init 7 = .ok (.newarray .long, 2) := by decide +kernel
theorem dX5_init_9 : decode cX5_init 9 = .ok (.putfield 9, 3) := by decide +kernel
theorem dX5_init_12 : decode cX5_init 12 = .ok (.aload_n 0, 1) := by decide +kernel
theorem dX5_init_13 : decode cX5_init 13 = .ok (.iconst 4, 1) := by decide +kernel
theorem dX5_init_14 : decode cX5_init 14 = .ok (.newarray .long, 2) := by decide +kernel
theorem dX5_init_16 : decode cX5_init 16 = .ok (.putfield 15, 3) := by decide +kernel
theorem dX5_init_19 : decode cX5_init 19 = .ok (.aload_n 0, 1) := by decide +kernel
theorem dX5_init_20 : decode cX5_init 20 = .ok (.iconst 5, 1) := by decide +kernel
theorem dX5_init_21 : decode cX5_init 21 = .ok (.newarray .long, 2) := by decide +kernel
theorem dX5_init_23 : decode cX5_init 23 = .ok (.putfield 18, 3) := by decide +kernel
theorem dX5_init_26 : decode cX5_init 26 = .ok (.aload_n 0, 1) := by decide +kernel
theorem dX5_init_27 : decode cX5_init 27 = .ok (.bipush 10, 2) := by decide +kernel
theorem dX5_init_29 : decode cX5_init 29 = .ok (.newarray .int, 2) := by decide +kernel
theorem dX5_init_31 : decode cX5_init 31 = .ok (.putfield 21, 3) := by decide +kernel
theorem dX5_init_34 : decode cX5_init 34 = .ok (.aload_n 0, 1) := by decide +kernel
theorem dX5_init_35 : decode cX5_init 35 = .ok (.bipush 10, 2) := by decide +kernel
theorem dX5_init_37 : decode cX5_init 37 = .ok (.newarray .int, 2) := by decide +kernel
theorem dX5_init_39 : decode cX5_init 39 = .ok (.putfield 25, 3) := by decide +kernel
theorem dX5_init_42 : decode cX5_init 42 = .ok (.aload_n 0, 1) := by decide +kernel
theorem dX5_init_43 : decode cX5_init 43 = .ok (.bipush 10, 2) := by decide +kernel
theorem dX5_init_45 : decode cX5_init 45 = .ok (.newarray .int, 2) := by decide +kernel
theorem dX5_init_47 : decode cX5_init 47 = .ok (.putfield 28, 3) := by decide +kernel
theorem dX5_init_50 : decode cX5_init 50 = .ok (.aload_n 0, 1) := by decide +kernel
theorem dX5_init_51 : decode cX5_init 51 = .ok (.iconst 4, 1) := by decide +kernel
theorem dX5_init_52 : decode cX5_init 52 = .ok (.newarray .int, 2) := by decide +kernel
theorem dX5_init_54 : decode cX5_init 54 = .ok (.putfield 31, 3) := by decide +kernel
theorem dX5_init_57 : decode cX5_init 57 = .ok (.aload_n 0, 1) := by decide +kernel
theorem dX5_init_58 : decode cX5_init 58 = .ok (.iconst 4, 1) := by decide +kernel
theorem dX5_init_59 : decode cX5_init 59 = .ok (.newarray .int, 2) := by decide +kernel
theorem dX5_init_61 : decode cX5_init 61 = .ok (.putfield 34, 3) := by decide +kernel
theorem dX5_init_64 : decode cX5_init 64 = .ok (.aload_n 0, 1) := by decide +kernel
theorem dX5_init_65 : decode cX5_init 65 = .ok (.iconst 5, 1) := by decide +kernel
theorem dX5_init_66 : decode cX5_init 66 = .ok (.newarray .int, 2) := by decide +kernel
theorem dX5_init_68 : decode cX5_init 68 = .ok (.putfield 37, 3) := by decide +kernel
theorem dX5_init_71 : decode cX5_init 71 = .ok (.aload_n 0, 1) := by decide +kernel
theorem dX5_init_72 : decode cX5_init 72 = .ok (.bipush 40, 2) := by decide +kernel
theorem dX5_init_74 : decode cX5_init 74 = .ok (.newarray .int, 2) := by decide +kernel
theorem dX5_init_76 : decode cX5_init 76 = .ok (.putfield 40, 3) := by decide +kernel
theorem dX5_init_79 : decode cX5_init 79 = .ok (.return_, 1) := by decide +kernel
set_option maxHeartbeats 4000000 in
set_option maxRecDepth 100000 in
theorem c_X5_init (l : Launch) (D : va_G) (ca : Nat → ClassId) (sz : Nat) (h0 : Nat)  : oMet l yX5_init wsX5_init ({ frames := 1, cells := 10, slots := 102, locals := 12 } : Room) [.ref h0] D ca sz [(h0, .inr (5, [.int 0, .int 0, .int 0, .int 0, .int 0, .int 0, .null, .null, .null, .null, .null, .null, .null, .null, .null, .null]))] (oQv D (fun (u : Nat × Nat × Nat × Nat × Nat × Nat × Nat × Nat × Nat × Nat) => True) (fun (u : Nat × Nat × Nat × Nat × Nat × Nat × Nat × Nat × Nat × Nat) => [(h0, .inr (5, [.int 0, .int 0, .int 0, .int 0, .int 0, .int 0, .ref u.1, .ref u.2.1, .ref u.2.2.1, .ref u.2.2.2.1, .ref u.2.2.2.2.1, .ref u.2.2.2.2.2.1, .ref u.2.2.2.2.2.2.1, .ref u.2.2.2.2.2.2.2.1, .ref u.2.2.2.2.2.2.2.2.1, .ref u.2.2.2.2.2.2.2.2.2])), (aJ ca u.1 10 (fun _ => 0)), (aJ ca u.2.1 4 (fun _ => 0)), (aJ ca u.2.2.1 5 (fun _ => 0)), (aI ca u.2.2.2.1 10 (fun _ => 0)), (aI ca u.2.2.2.2.1 10 (fun _ => 0)), (aI ca u.2.2.2.2.2.1 10 (fun _ => 0)), (aI ca u.2.2.2.2.2.2.1 4 (fun _ => 0)), (aI ca u.2.2.2.2.2.2.2.1 4 (fun _ => 0)), (aI ca u.2.2.2.2.2.2.2.2.1 5 (fun _ => 0)), (aI ca u.2.2.2.2.2.2.2.2.2 40 (fun _ => 0))])) 10 102 := by
  refine oM (cc := cX5_init) (maxL := 1) (ret := none) (by decide) rfl (Nat.le_of_ble_eq_true rfl) [(0, .ref h0)] rfl ?_
  intro p e s m below meth c A H locs ls hx hb hr hml hts hown hlocks hin hK hP hD hA hS hl
  have hown : s.vm.findClass RX5 = some m.cls := hown
  have k1 := hts (.methodLink RX5 3 objectInit) (by decide +kernel)
  have k2 := hts (.instanceMethod objectInit) (by decide +kernel)
  have k3 := hts (.code objectInit ⟨#[0xb1]⟩ 1 none) (by decide +kernel)
  have k4 := hts (.arrayClass .long) (by decide +kernel)
  have k5 := hts (.fieldLink RX5 9 "LidCourt$Law" "jurorName" "[J") (by decide +kernel)
  have k6 : ∀ w ∈ wsX50, w ∈ wsX5_init := fun _ h => List.mem_cons_of_mem _ (List.mem_append_right _ h)
  have k7 := hts (.fieldLink RX5 15 "LidCourt$Law" "floorName" "[J") (by decide +kernel)
  have k8 := hts (.fieldLink RX5 18 "LidCourt$Law" "caseName" "[J") (by decide +kernel)
  have k9 := hts (.arrayClass .int) (by decide +kernel)
  have k10 := hts (.fieldLink RX5 21 "LidCourt$Law" "pitch" "[I") (by decide +kernel)
  have k11 := hts (.fieldLink RX5 25 "LidCourt$Law" "length" "[I") (by decide +kernel)
  have k12 := hts (.fieldLink RX5 28 "LidCourt$Law" "hands" "[I") (by decide +kernel)
  have k13 := hts (.fieldLink RX5 31 "LidCourt$Law" "tune" "[I") (by decide +kernel)
  have k14 := hts (.fieldLink RX5 34 "LidCourt$Law" "dull" "[I") (by decide +kernel)
  have k15 := hts (.fieldLink RX5 37 "LidCourt$Law" "caseFloor" "[I") (by decide +kernel)
  have k16 := hts (.fieldLink RX5 40 "LidCourt$Law" "tuned" "[I") (by decide +kernel)
  refine lv_aload_n hx hb dX5_init_0 rfl (lv_at hl 0 rfl) ?_
  refine W.objInit hx hb hown k1 k2 k3 rfl (by rw [hml]; exact hl.1) rfl dX5_init_1 (Nat.le_of_ble_eq_true rfl) (Nat.le_of_ble_eq_true rfl) ?_
  refine W.eq (g2 := F0 m 4 ls []) rfl ?_
  refine lv_aload_n hx hb dX5_init_4 rfl (lv_at hl 0 rfl) ?_
  refine lv_bipush (v := 10) hx hb dX5_init_5 (by decide) ?_
  refine onewa hx hb (atype := .long) (ty := .long) k4 rfl hK hP hD hS hA 1 rfl (n := 10) (N' := 10) (10, .inr (.inl (fun _ => 0))) (fun _ => rfl) (by decide) (by decide) (by decide) (Nat.le_of_ble_eq_true rfl) (Nat.le_of_ble_eq_true rfl) dX5_init_7 (fun q_1 H hP hD hS => ?_)
  have hP : va_P D vwCl [(h0, .inr (5, [.int 0, .int 0, .int 0, .int 0, .int 0, .int 0, .null, .null, .null, .null, .null, .null, .null, .null, .null, .null])), (aJ ca q_1 10 (fun _ => 0))] H := hP
  have hD : va_D A [(h0, .inr (5, [.int 0, .int 0, .int 0, .int 0, .int 0, .int 0, .null, .null, .null, .null, .null, .null, .null, .null, .null, .null])), (aJ ca q_1 10 (fun _ => 0))] := hD
  refine W.widen (k := 1) (n := 10) (Nat.le_of_ble_eq_true rfl) (Nat.le_of_ble_eq_true rfl) ?_
  refine va_putF (D := D) (ci := 5) (v := .ref q_1) (ty := .array .long) (C := RX5) (T := TX5) (N := 16) hx hb hts k6 tyX5 tyX5_ok nmX5 hown hK.1 hP hD hS 0 rfl rfl 6 (by decide) k5 (fun _ h9 => h9) rfl hin rfl (by decide +kernel) rfl rfl (Nat.le_of_ble_eq_true rfl) dX5_init_9 (fun H locs hP hD hS => ?_)
  have hP : va_P D vwCl [(h0, .inr (5, [.int 0, .int 0, .int 0, .int 0, .int 0, .int 0, .ref q_1, .null, .null, .null, .null, .null, .null, .null, .null, .null])), (aJ ca q_1 10 (fun _ => 0))] H := hP
  have hD : va_D A [(h0, .inr (5, [.int 0, .int 0, .int 0, .int 0, .int 0, .int 0, .ref q_1, .null, .null, .null, .null, .null, .null, .null, .null, .null])), (aJ ca q_1 10 (fun _ => 0))] := hD
  refine lv_aload_n hx hb dX5_init_12 rfl (lv_at hl 0 rfl) ?_
  refine lv_iconst (v := 4) hx hb dX5_init_13 (by decide) ?_
  refine onewa hx hb (atype := .long) (ty := .long) k4 rfl hK hP hD hS hA 1 rfl (n := 4) (N' := 4) (4, .inr (.inl (fun _ => 0))) (fun _ => rfl) (by decide) (by decide) (by decide) (Nat.le_of_ble_eq_true rfl) (Nat.le_of_ble_eq_true rfl) dX5_init_14 (fun q_2 H hP hD hS => ?_)
  have hP : va_P D vwCl [(h0, .inr (5, [.int 0, .int 0, .int 0, .int 0, .int 0, .int 0, .ref q_1, .null, .null, .null, .null, .null, .null, .null, .null, .null])), (aJ ca q_1 10 (fun _ => 0)), (aJ ca q_2 4 (fun _ => 0))] H := hP
  have hD : va_D A [(h0, .inr (5, [.int 0, .int 0, .int 0, .int 0, .int 0, .int 0, .ref q_1, .null, .null, .null, .null, .null, .null, .null, .null, .null])), (aJ ca q_1 10 (fun _ => 0)), (aJ ca q_2 4 (fun _ => 0))] := hD
  refine W.widen (k := 2) (n := 14) (Nat.le_of_ble_eq_true rfl) (Nat.le_of_ble_eq_true rfl) ?_
  refine va_putF (D := D) (ci := 5) (v := .ref q_2) (ty := .array .long) (C := RX5) (T := TX5) (N := 16) hx hb hts k6 tyX5 tyX5_ok nmX5 hown hK.1 hP hD hS 0 rfl rfl 7 (by decide) k7 (fun _ h9 => h9) rfl hin rfl (by decide +kernel) rfl rfl (Nat.le_of_ble_eq_true rfl) dX5_init_16 (fun H locs hP hD hS => ?_)
  have hP : va_P D vwCl [(h0, .inr (5, [.int 0, .int 0, .int 0, .int 0, .int 0, .int 0, .ref q_1, .ref q_2, .null, .null, .null, .null, .null, .null, .null, .null])), (aJ ca q_1 10 (fun _ => 0)), (aJ ca q_2 4 (fun _ => 0))] H := hP
  have hD : va_D A [(h0, .inr (5, [.int 0, .int 0, .int 0, .int 0, .int 0, .int 0, .ref q_1, .ref q_2, .null, .null, .null, .null, .null, .null, .null, .null])), (aJ ca q_1 10 (fun _ => 0)), (aJ ca q_2 4 (fun _ => 0))] := hD
  refine lv_aload_n hx hb dX5_init_19 rfl (lv_at hl 0 rfl) ?_
  refine lv_iconst (v := 5) hx hb dX5_init_20 (by decide) ?_
  refine onewa hx hb (atype := .long) (ty := .long) k4 rfl hK hP hD hS hA 1 rfl (n := 5) (N' := 5) (5, .inr (.inl (fun _ => 0))) (fun _ => rfl) (by decide) (by decide) (by decide) (Nat.le_of_ble_eq_true rfl) (Nat.le_of_ble_eq_true rfl) dX5_init_21 (fun q_3 H hP hD hS => ?_)
  have hP : va_P D vwCl [(h0, .inr (5, [.int 0, .int 0, .int 0, .int 0, .int 0, .int 0, .ref q_1, .ref q_2, .null, .null, .null, .null, .null, .null, .null, .null])), (aJ ca q_1 10 (fun _ => 0)), (aJ ca q_2 4 (fun _ => 0)), (aJ ca q_3 5 (fun _ => 0))] H := hP
  have hD : va_D A [(h0, .inr (5, [.int 0, .int 0, .int 0, .int 0, .int 0, .int 0, .ref q_1, .ref q_2, .null, .null, .null, .null, .null, .null, .null, .null])), (aJ ca q_1 10 (fun _ => 0)), (aJ ca q_2 4 (fun _ => 0)), (aJ ca q_3 5 (fun _ => 0))] := hD
  refine W.widen (k := 3) (n := 19) (Nat.le_of_ble_eq_true rfl) (Nat.le_of_ble_eq_true rfl) ?_
  refine va_putF (D := D) (ci := 5) (v := .ref q_3) (ty := .array .long) (C := RX5) (T := TX5) (N := 16) hx hb hts k6 tyX5 tyX5_ok nmX5 hown hK.1 hP hD hS 0 rfl rfl 8 (by decide) k8 (fun _ h9 => h9) rfl hin rfl (by decide +kernel) rfl rfl (Nat.le_of_ble_eq_true rfl) dX5_init_23 (fun H locs hP hD hS => ?_)
  have hP : va_P D vwCl [(h0, .inr (5, [.int 0, .int 0, .int 0, .int 0, .int 0, .int 0, .ref q_1, .ref q_2, .ref q_3, .null, .null, .null, .null, .null, .null, .null])), (aJ ca q_1 10 (fun _ => 0)), (aJ ca q_2 4 (fun _ => 0)), (aJ ca q_3 5 (fun _ => 0))] H := hP
  have hD : va_D A [(h0, .inr (5, [.int 0, .int 0, .int 0, .int 0, .int 0, .int 0, .ref q_1, .ref q_2, .ref q_3, .null, .null, .null, .null, .null, .null, .null])), (aJ ca q_1 10 (fun _ => 0)), (aJ ca q_2 4 (fun _ => 0)), (aJ ca q_3 5 (fun _ => 0))] := hD
  refine lv_aload_n hx hb dX5_init_26 rfl (lv_at hl 0 rfl) ?_
  refine lv_bipush (v := 10) hx hb dX5_init_27 (by decide) ?_
  refine onewa hx hb (atype := .int) (ty := .int) k9 rfl hK hP hD hS hA 0 rfl (n := 10) (N' := 10) (10, .inl (fun _ => 0)) (fun _ => rfl) (by decide) (by decide) (by decide) (Nat.le_of_ble_eq_true rfl) (Nat.le_of_ble_eq_true rfl) dX5_init_29 (fun q_4 H hP hD hS => ?_)
  have hP : va_P D vwCl [(h0, .inr (5, [.int 0, .int 0, .int 0, .int 0, .int 0, .int 0, .ref q_1, .ref q_2, .ref q_3, .null, .null, .null, .null, .null, .null, .null])), (aJ ca q_1 10 (fun _ => 0)), (aJ ca q_2 4 (fun _ => 0)), (aJ ca q_3 5 (fun _ => 0)), (aI ca q_4 10 (fun _ => 0))] H := hP
  have hD : va_D A [(h0, .inr (5, [.int 0, .int 0, .int 0, .int 0, .int 0, .int 0, .ref q_1, .ref q_2, .ref q_3, .null, .null, .null, .null, .null, .null, .null])), (aJ ca q_1 10 (fun _ => 0)), (aJ ca q_2 4 (fun _ => 0)), (aJ ca q_3 5 (fun _ => 0)), (aI ca q_4 10 (fun _ => 0))] := hD
  refine W.widen (k := 4) (n := 29) (Nat.le_of_ble_eq_true rfl) (Nat.le_of_ble_eq_true rfl) ?_
  refine va_putF (D := D) (ci := 5) (v := .ref q_4) (ty := .array .int) (C := RX5) (T := TX5) (N := 16) hx hb hts k6 tyX5 tyX5_ok nmX5 hown hK.1 hP hD hS 0 rfl rfl 9 (by decide) k10 (fun _ h9 => h9) rfl hin rfl (by decide +kernel) rfl rfl (Nat.le_of_ble_eq_true rfl) dX5_init_31 (fun H locs hP hD hS => ?_)
  have hP : va_P D vwCl [(h0, .inr (5, [.int 0, .int 0, .int 0, .int 0, .int 0, .int 0, .ref q_1, .ref q_2, .ref q_3, .ref q_4, .null, .null, .null, .null, .null, .null])), (aJ ca q_1 10 (fun _ => 0)), (aJ ca q_2 4 (fun _ => 0)), (aJ ca q_3 5 (fun _ => 0)), (aI ca q_4 10 (fun _ => 0))] H := hP
  have hD : va_D A [(h0, .inr (5, [.int 0, .int 0, .int 0, .int 0, .int 0, .int 0, .ref q_1, .ref q_2, .ref q_3, .ref q_4, .null, .null, .null, .null, .null, .null])), (aJ ca q_1 10 (fun _ => 0)), (aJ ca q_2 4 (fun _ => 0)), (aJ ca q_3 5 (fun _ => 0)), (aI ca q_4 10 (fun _ => 0))] := hD
  refine lv_aload_n hx hb dX5_init_34 rfl (lv_at hl 0 rfl) ?_
  refine lv_bipush (v := 10) hx hb dX5_init_35 (by decide) ?_
  refine onewa hx hb (atype := .int) (ty := .int) k9 rfl hK hP hD hS hA 0 rfl (n := 10) (N' := 10) (10, .inl (fun _ => 0)) (fun _ => rfl) (by decide) (by decide) (by decide) (Nat.le_of_ble_eq_true rfl) (Nat.le_of_ble_eq_true rfl) dX5_init_37 (fun q_5 H hP hD hS => ?_)
  have hP : va_P D vwCl [(h0, .inr (5, [.int 0, .int 0, .int 0, .int 0, .int 0, .int 0, .ref q_1, .ref q_2, .ref q_3, .ref q_4, .null, .null, .null, .null, .null, .null])), (aJ ca q_1 10 (fun _ => 0)), (aJ ca q_2 4 (fun _ => 0)), (aJ ca q_3 5 (fun _ => 0)), (aI ca q_4 10 (fun _ => 0)), (aI ca q_5 10 (fun _ => 0))] H := hP
  have hD : va_D A [(h0, .inr (5, [.int 0, .int 0, .int 0, .int 0, .int 0, .int 0, .ref q_1, .ref q_2, .ref q_3, .ref q_4, .null, .null, .null, .null, .null, .null])), (aJ ca q_1 10 (fun _ => 0)), (aJ ca q_2 4 (fun _ => 0)), (aJ ca q_3 5 (fun _ => 0)), (aI ca q_4 10 (fun _ => 0)), (aI ca q_5 10 (fun _ => 0))] := hD
  refine W.widen (k := 5) (n := 39) (Nat.le_of_ble_eq_true rfl) (Nat.le_of_ble_eq_true rfl) ?_
  refine va_putF (D := D) (ci := 5) (v := .ref q_5) (ty := .array .int) (C := RX5) (T := TX5) (N := 16) hx hb hts k6 tyX5 tyX5_ok nmX5 hown hK.1 hP hD hS 0 rfl rfl 10 (by decide) k11 (fun _ h9 => h9) rfl hin rfl (by decide +kernel) rfl rfl (Nat.le_of_ble_eq_true rfl) dX5_init_39 (fun H locs hP hD hS => ?_)
  have hP : va_P D vwCl [(h0, .inr (5, [.int 0, .int 0, .int 0, .int 0, .int 0, .int 0, .ref q_1, .ref q_2, .ref q_3, .ref q_4, .ref q_5, .null, .null, .null, .null, .null])), (aJ ca q_1 10 (fun _ => 0)), (aJ ca q_2 4 (fun _ => 0)), (aJ ca q_3 5 (fun _ => 0)), (aI ca q_4 10 (fun _ => 0)), (aI ca q_5 10 (fun _ => 0))] H := hP
  have hD : va_D A [(h0, .inr (5, [.int 0, .int 0, .int 0, .int 0, .int 0, .int 0, .ref q_1, .ref q_2, .ref q_3, .ref q_4, .ref q_5, .null, .null, .null, .null, .null])), (aJ ca q_1 10 (fun _ => 0)), (aJ ca q_2 4 (fun _ => 0)), (aJ ca q_3 5 (fun _ => 0)), (aI ca q_4 10 (fun _ => 0)), (aI ca q_5 10 (fun _ => 0))] := hD
  refine lv_aload_n hx hb dX5_init_42 rfl (lv_at hl 0 rfl) ?_
  refine lv_bipush (v := 10) hx hb dX5_init_43 (by decide) ?_
  refine onewa hx hb (atype := .int) (ty := .int) k9 rfl hK hP hD hS hA 0 rfl (n := 10) (N' := 10) (10, .inl (fun _ => 0)) (fun _ => rfl) (by decide) (by decide) (by decide) (Nat.le_of_ble_eq_true rfl) (Nat.le_of_ble_eq_true rfl) dX5_init_45 (fun q_6 H hP hD hS => ?_)
  have hP : va_P D vwCl [(h0, .inr (5, [.int 0, .int 0, .int 0, .int 0, .int 0, .int 0, .ref q_1, .ref q_2, .ref q_3, .ref q_4, .ref q_5, .null, .null, .null, .null, .null])), (aJ ca q_1 10 (fun _ => 0)), (aJ ca q_2 4 (fun _ => 0)), (aJ ca q_3 5 (fun _ => 0)), (aI ca q_4 10 (fun _ => 0)), (aI ca q_5 10 (fun _ => 0)), (aI ca q_6 10 (fun _ => 0))] H := hP
  have hD : va_D A [(h0, .inr (5, [.int 0, .int 0, .int 0, .int 0, .int 0, .int 0, .ref q_1, .ref q_2, .ref q_3, .ref q_4, .ref q_5, .null, .null, .null, .null, .null])), (aJ ca q_1 10 (fun _ => 0)), (aJ ca q_2 4 (fun _ => 0)), (aJ ca q_3 5 (fun _ => 0)), (aI ca q_4 10 (fun _ => 0)), (aI ca q_5 10 (fun _ => 0)), (aI ca q_6 10 (fun _ => 0))] := hD
  refine W.widen (k := 6) (n := 49) (Nat.le_of_ble_eq_true rfl) (Nat.le_of_ble_eq_true rfl) ?_
  refine va_putF (D := D) (ci := 5) (v := .ref q_6) (ty := .array .int) (C := RX5) (T := TX5) (N := 16) hx hb hts k6 tyX5 tyX5_ok nmX5 hown hK.1 hP hD hS 0 rfl rfl 11 (by decide) k12 (fun _ h9 => h9) rfl hin rfl (by decide +kernel) rfl rfl (Nat.le_of_ble_eq_true rfl) dX5_init_47 (fun H locs hP hD hS => ?_)
  have hP : va_P D vwCl [(h0, .inr (5, [.int 0, .int 0, .int 0, .int 0, .int 0, .int 0, .ref q_1, .ref q_2, .ref q_3, .ref q_4, .ref q_5, .ref q_6, .null, .null, .null, .null])), (aJ ca q_1 10 (fun _ => 0)), (aJ ca q_2 4 (fun _ => 0)), (aJ ca q_3 5 (fun _ => 0)), (aI ca q_4 10 (fun _ => 0)), (aI ca q_5 10 (fun _ => 0)), (aI ca q_6 10 (fun _ => 0))] H := hP
  have hD : va_D A [(h0, .inr (5, [.int 0, .int 0, .int 0, .int 0, .int 0, .int 0, .ref q_1, .ref q_2, .ref q_3, .ref q_4, .ref q_5, .ref q_6, .null, .null, .null, .null])), (aJ ca q_1 10 (fun _ => 0)), (aJ ca q_2 4 (fun _ => 0)), (aJ ca q_3 5 (fun _ => 0)), (aI ca q_4 10 (fun _ => 0)), (aI ca q_5 10 (fun _ => 0)), (aI ca q_6 10 (fun _ => 0))] := hD
  refine lv_aload_n hx hb dX5_init_50 rfl (lv_at hl 0 rfl) ?_
  refine lv_iconst (v := 4) hx hb dX5_init_51 (by decide) ?_
  refine onewa hx hb (atype := .int) (ty := .int) k9 rfl hK hP hD hS hA 0 rfl (n := 4) (N' := 4) (4, .inl (fun _ => 0)) (fun _ => rfl) (by decide) (by decide) (by decide) (Nat.le_of_ble_eq_true rfl) (Nat.le_of_ble_eq_true rfl) dX5_init_52 (fun q_7 H hP hD hS => ?_)
  have hP : va_P D vwCl [(h0, .inr (5, [.int 0, .int 0, .int 0, .int 0, .int 0, .int 0, .ref q_1, .ref q_2, .ref q_3, .ref q_4, .ref q_5, .ref q_6, .null, .null, .null, .null])), (aJ ca q_1 10 (fun _ => 0)), (aJ ca q_2 4 (fun _ => 0)), (aJ ca q_3 5 (fun _ => 0)), (aI ca q_4 10 (fun _ => 0)), (aI ca q_5 10 (fun _ => 0)), (aI ca q_6 10 (fun _ => 0)), (aI ca q_7 4 (fun _ => 0))] H := hP
  have hD : va_D A [(h0, .inr (5, [.int 0, .int 0, .int 0, .int 0, .int 0, .int 0, .ref q_1, .ref q_2, .ref q_3, .ref q_4, .ref q_5, .ref q_6, .null, .null, .null, .null])), (aJ ca q_1 10 (fun _ => 0)), (aJ ca q_2 4 (fun _ => 0)), (aJ ca q_3 5 (fun _ => 0)), (aI ca q_4 10 (fun _ => 0)), (aI ca q_5 10 (fun _ => 0)), (aI ca q_6 10 (fun _ => 0)), (aI ca q_7 4 (fun _ => 0))] := hD
  refine W.widen (k := 7) (n := 53) (Nat.le_of_ble_eq_true rfl) (Nat.le_of_ble_eq_true rfl) ?_
  refine va_putF (D := D) (ci := 5) (v := .ref q_7) (ty := .array .int) (C := RX5) (T := TX5) (N := 16) hx hb hts k6 tyX5 tyX5_ok nmX5 hown hK.1 hP hD hS 0 rfl rfl 12 (by decide) k13 (fun _ h9 => h9) rfl hin rfl (by decide +kernel) rfl rfl (Nat.le_of_ble_eq_true rfl) dX5_init_54 (fun H locs hP hD hS => ?_)
  have hP : va_P D vwCl [(h0, .inr (5, [.int 0, .int 0, .int 0, .int 0, .int 0, .int 0, .ref q_1, .ref q_2, .ref q_3, .ref q_4, .ref q_5, .ref q_6, .ref q_7, .null, .null, .null])), (aJ ca q_1 10 (fun _ => 0)), (aJ ca q_2 4 (fun _ => 0)), (aJ ca q_3 5 (fun _ => 0)), (aI ca q_4 10 (fun _ => 0)), (aI ca q_5 10 (fun _ => 0)), (aI ca q_6 10 (fun _ => 0)), (aI ca q_7 4 (fun _ => 0))] H := hP
  have hD : va_D A [(h0, .inr (5, [.int 0, .int 0, .int 0, .int 0, .int 0, .int 0, .ref q_1, .ref q_2, .ref q_3, .ref q_4, .ref q_5, .ref q_6, .ref q_7, .null, .null, .null])), (aJ ca q_1 10 (fun _ => 0)), (aJ ca q_2 4 (fun _ => 0)), (aJ ca q_3 5 (fun _ => 0)), (aI ca q_4 10 (fun _ => 0)), (aI ca q_5 10 (fun _ => 0)), (aI ca q_6 10 (fun _ => 0)), (aI ca q_7 4 (fun _ => 0))] := hD
  refine lv_aload_n hx hb dX5_init_57 rfl (lv_at hl 0 rfl) ?_
  refine lv_iconst (v := 4) hx hb dX5_init_58 (by decide) ?_
  refine onewa hx hb (atype := .int) (ty := .int) k9 rfl hK hP hD hS hA 0 rfl (n := 4) (N' := 4) (4, .inl (fun _ => 0)) (fun _ => rfl) (by decide) (by decide) (by decide) (Nat.le_of_ble_eq_true rfl) (Nat.le_of_ble_eq_true rfl) dX5_init_59 (fun q_8 H hP hD hS => ?_)
  have hP : va_P D vwCl [(h0, .inr (5, [.int 0, .int 0, .int 0, .int 0, .int 0, .int 0, .ref q_1, .ref q_2, .ref q_3, .ref q_4, .ref q_5, .ref q_6, .ref q_7, .null, .null, .null])), (aJ ca q_1 10 (fun _ => 0)), (aJ ca q_2 4 (fun _ => 0)), (aJ ca q_3 5 (fun _ => 0)), (aI ca q_4 10 (fun _ => 0)), (aI ca q_5 10 (fun _ => 0)), (aI ca q_6 10 (fun _ => 0)), (aI ca q_7 4 (fun _ => 0)), (aI ca q_8 4 (fun _ => 0))] H := hP
  have hD : va_D A [(h0, .inr (5, [.int 0, .int 0, .int 0, .int 0, .int 0, .int 0, .ref q_1, .ref q_2, .ref q_3, .ref q_4, .ref q_5, .ref q_6, .ref q_7, .null, .null, .null])), (aJ ca q_1 10 (fun _ => 0)), (aJ ca q_2 4 (fun _ => 0)), (aJ ca q_3 5 (fun _ => 0)), (aI ca q_4 10 (fun _ => 0)), (aI ca q_5 10 (fun _ => 0)), (aI ca q_6 10 (fun _ => 0)), (aI ca q_7 4 (fun _ => 0)), (aI ca q_8 4 (fun _ => 0))] := hD
  refine W.widen (k := 8) (n := 57) (Nat.le_of_ble_eq_true rfl) (Nat.le_of_ble_eq_true rfl) ?_
  refine va_putF (D := D) (ci := 5) (v := .ref q_8) (ty := .array .int) (C := RX5) (T := TX5) (N := 16) hx hb hts k6 tyX5 tyX5_ok nmX5 hown hK.1 hP hD hS 0 rfl rfl 13 (by decide) k14 (fun _ h9 => h9) rfl hin rfl (by decide +kernel) rfl rfl (Nat.le_of_ble_eq_true rfl) dX5_init_61 (fun H locs hP hD hS => ?_)
  have hP : va_P D vwCl [(h0, .inr (5, [.int 0, .int 0, .int 0, .int 0, .int 0, .int 0, .ref q_1, .ref q_2, .ref q_3, .ref q_4, .ref q_5, .ref q_6, .ref q_7, .ref q_8, .null, .null])), (aJ ca q_1 10 (fun _ => 0)), (aJ ca q_2 4 (fun _ => 0)), (aJ ca q_3 5 (fun _ => 0)), (aI ca q_4 10 (fun _ => 0)), (aI ca q_5 10 (fun _ => 0)), (aI ca q_6 10 (fun _ => 0)), (aI ca q_7 4 (fun _ => 0)), (aI ca q_8 4 (fun _ => 0))] H := hP
  have hD : va_D A [(h0, .inr (5, [.int 0, .int 0, .int 0, .int 0, .int 0, .int 0, .ref q_1, .ref q_2, .ref q_3, .ref q_4, .ref q_5, .ref q_6, .ref q_7, .ref q_8, .null, .null])), (aJ ca q_1 10 (fun _ => 0)), (aJ ca q_2 4 (fun _ => 0)), (aJ ca q_3 5 (fun _ => 0)), (aI ca q_4 10 (fun _ => 0)), (aI ca q_5 10 (fun _ => 0)), (aI ca q_6 10 (fun _ => 0)), (aI ca q_7 4 (fun _ => 0)), (aI ca q_8 4 (fun _ => 0))] := hD
  refine lv_aload_n hx hb dX5_init_64 rfl (lv_at hl 0 rfl) ?_
  refine lv_iconst (v := 5) hx hb dX5_init_65 (by decide) ?_
  refine onewa hx hb (atype := .int) (ty := .int) k9 rfl hK hP hD hS hA 0 rfl (n := 5) (N' := 5) (5, .inl (fun _ => 0)) (fun _ => rfl) (by decide) (by decide) (by decide) (Nat.le_of_ble_eq_true rfl) (Nat.le_of_ble_eq_true rfl) dX5_init_66 (fun q_9 H hP hD hS => ?_)
  have hP : va_P D vwCl [(h0, .inr (5, [.int 0, .int 0, .int 0, .int 0, .int 0, .int 0, .ref q_1, .ref q_2, .ref q_3, .ref q_4, .ref q_5, .ref q_6, .ref q_7, .ref q_8, .null, .null])), (aJ ca q_1 10 (fun _ => 0)), (aJ ca q_2 4 (fun _ => 0)), (aJ ca q_3 5 (fun _ => 0)), (aI ca q_4 10 (fun _ => 0)), (aI ca q_5 10 (fun _ => 0)), (aI ca q_6 10 (fun _ => 0)), (aI ca q_7 4 (fun _ => 0)), (aI ca q_8 4 (fun _ => 0)), (aI ca q_9 5 (fun _ => 0))] H := hP
  have hD : va_D A [(h0, .inr (5, [.int 0, .int 0, .int 0, .int 0, .int 0, .int 0, .ref q_1, .ref q_2, .ref q_3, .ref q_4, .ref q_5, .ref q_6, .ref q_7, .ref q_8, .null, .null])), (aJ ca q_1 10 (fun _ => 0)), (aJ ca q_2 4 (fun _ => 0)), (aJ ca q_3 5 (fun _ => 0)), (aI ca q_4 10 (fun _ => 0)), (aI ca q_5 10 (fun _ => 0)), (aI ca q_6 10 (fun _ => 0)), (aI ca q_7 4 (fun _ => 0)), (aI ca q_8 4 (fun _ => 0)), (aI ca q_9 5 (fun _ => 0))] := hD
  refine W.widen (k := 9) (n := 62) (Nat.le_of_ble_eq_true rfl) (Nat.le_of_ble_eq_true rfl) ?_
  refine va_putF (D := D) (ci := 5) (v := .ref q_9) (ty := .array .int) (C := RX5) (T := TX5) (N := 16) hx hb hts k6 tyX5 tyX5_ok nmX5 hown hK.1 hP hD hS 0 rfl rfl 14 (by decide) k15 (fun _ h9 => h9) rfl hin rfl (by decide +kernel) rfl rfl (Nat.le_of_ble_eq_true rfl) dX5_init_68 (fun H locs hP hD hS => ?_)
  have hP : va_P D vwCl [(h0, .inr (5, [.int 0, .int 0, .int 0, .int 0, .int 0, .int 0, .ref q_1, .ref q_2, .ref q_3, .ref q_4, .ref q_5, .ref q_6, .ref q_7, .ref q_8, .ref q_9, .null])), (aJ ca q_1 10 (fun _ => 0)), (aJ ca q_2 4 (fun _ => 0)), (aJ ca q_3 5 (fun _ => 0)), (aI ca q_4 10 (fun _ => 0)), (aI ca q_5 10 (fun _ => 0)), (aI ca q_6 10 (fun _ => 0)), (aI ca q_7 4 (fun _ => 0)), (aI ca q_8 4 (fun _ => 0)), (aI ca q_9 5 (fun _ => 0))] H := hP
  have hD : va_D A [(h0, .inr (5, [.int 0, .int 0, .int 0, .int 0, .int 0, .int 0, .ref q_1, .ref q_2, .ref q_3, .ref q_4, .ref q_5, .ref q_6, .ref q_7, .ref q_8, .ref q_9, .null])), (aJ ca q_1 10 (fun _ => 0)), (aJ ca q_2 4 (fun _ => 0)), (aJ ca q_3 5 (fun _ => 0)), (aI ca q_4 10 (fun _ => 0)), (aI ca q_5 10 (fun _ => 0)), (aI ca q_6 10 (fun _ => 0)), (aI ca q_7 4 (fun _ => 0)), (aI ca q_8 4 (fun _ => 0)), (aI ca q_9 5 (fun _ => 0))] := hD
  refine lv_aload_n hx hb dX5_init_71 rfl (lv_at hl 0 rfl) ?_
  refine lv_bipush (v := 40) hx hb dX5_init_72 (by decide) ?_
  refine onewa hx hb (atype := .int) (ty := .int) k9 rfl hK hP hD hS hA 0 rfl (n := 40) (N' := 40) (40, .inl (fun _ => 0)) (fun _ => rfl) (by decide) (by decide) (by decide) (Nat.le_of_ble_eq_true rfl) (Nat.le_of_ble_eq_true rfl) dX5_init_74 (fun q_10 H hP hD hS => ?_)
  have hP : va_P D vwCl [(h0, .inr (5, [.int 0, .int 0, .int 0, .int 0, .int 0, .int 0, .ref q_1, .ref q_2, .ref q_3, .ref q_4, .ref q_5, .ref q_6, .ref q_7, .ref q_8, .ref q_9, .null])), (aJ ca q_1 10 (fun _ => 0)), (aJ ca q_2 4 (fun _ => 0)), (aJ ca q_3 5 (fun _ => 0)), (aI ca q_4 10 (fun _ => 0)), (aI ca q_5 10 (fun _ => 0)), (aI ca q_6 10 (fun _ => 0)), (aI ca q_7 4 (fun _ => 0)), (aI ca q_8 4 (fun _ => 0)), (aI ca q_9 5 (fun _ => 0)), (aI ca q_10 40 (fun _ => 0))] H := hP
  have hD : va_D A [(h0, .inr (5, [.int 0, .int 0, .int 0, .int 0, .int 0, .int 0, .ref q_1, .ref q_2, .ref q_3, .ref q_4, .ref q_5, .ref q_6, .ref q_7, .ref q_8, .ref q_9, .null])), (aJ ca q_1 10 (fun _ => 0)), (aJ ca q_2 4 (fun _ => 0)), (aJ ca q_3 5 (fun _ => 0)), (aI ca q_4 10 (fun _ => 0)), (aI ca q_5 10 (fun _ => 0)), (aI ca q_6 10 (fun _ => 0)), (aI ca q_7 4 (fun _ => 0)), (aI ca q_8 4 (fun _ => 0)), (aI ca q_9 5 (fun _ => 0)), (aI ca q_10 40 (fun _ => 0))] := hD
  refine W.widen (k := 10) (n := 102) (Nat.le_of_ble_eq_true rfl) (Nat.le_of_ble_eq_true rfl) ?_
  refine va_putF (D := D) (ci := 5) (v := .ref q_10) (ty := .array .int) (C := RX5) (T := TX5) (N := 16) hx hb hts k6 tyX5 tyX5_ok nmX5 hown hK.1 hP hD hS 0 rfl rfl 15 (by decide) k16 (fun _ h9 => h9) rfl hin rfl (by decide +kernel) rfl rfl (Nat.le_of_ble_eq_true rfl) dX5_init_76 (fun H locs hP hD hS => ?_)
  have hP : va_P D vwCl [(h0, .inr (5, [.int 0, .int 0, .int 0, .int 0, .int 0, .int 0, .ref q_1, .ref q_2, .ref q_3, .ref q_4, .ref q_5, .ref q_6, .ref q_7, .ref q_8, .ref q_9, .ref q_10])), (aJ ca q_1 10 (fun _ => 0)), (aJ ca q_2 4 (fun _ => 0)), (aJ ca q_3 5 (fun _ => 0)), (aI ca q_4 10 (fun _ => 0)), (aI ca q_5 10 (fun _ => 0)), (aI ca q_6 10 (fun _ => 0)), (aI ca q_7 4 (fun _ => 0)), (aI ca q_8 4 (fun _ => 0)), (aI ca q_9 5 (fun _ => 0)), (aI ca q_10 40 (fun _ => 0))] H := hP
  have hD : va_D A [(h0, .inr (5, [.int 0, .int 0, .int 0, .int 0, .int 0, .int 0, .ref q_1, .ref q_2, .ref q_3, .ref q_4, .ref q_5, .ref q_6, .ref q_7, .ref q_8, .ref q_9, .ref q_10])), (aJ ca q_1 10 (fun _ => 0)), (aJ ca q_2 4 (fun _ => 0)), (aJ ca q_3 5 (fun _ => 0)), (aI ca q_4 10 (fun _ => 0)), (aI ca q_5 10 (fun _ => 0)), (aI ca q_6 10 (fun _ => 0)), (aI ca q_7 4 (fun _ => 0)), (aI ca q_8 4 (fun _ => 0)), (aI ca q_9 5 (fun _ => 0)), (aI ca q_10 40 (fun _ => 0))] := hD
  exact oE_v hx hb hr hlocks hP hD hS (q_1, q_2, q_3, q_4, q_5, q_6, q_7, q_8, q_9, q_10) [0, 1, 2, 3, 4, 5, 6, 7, 8, 9, 10] rfl (by decide) trivial (Nat.le_of_ble_eq_true rfl) (Nat.le_of_ble_eq_true rfl) dX5_init_79
theorem dX9_init_0 : decode cX9_init 0 = .ok (.aload_n 0, 1) := by decide +kernel
theorem dX9_init_1 : decode cX9_init 1 = .ok (.invokespecial 3, 3) := by decide +kernel
theorem dX9_init_4 : decode cX9_init 4 = .ok (.aload_n 0, 1) := by decide +kernel
theorem dX9_init_5 : decode cX9_init 5 = .ok (.bipush 10, 2) := by decide +kernel
theorem dX9_init_7 : decode cX9_init 7 = .ok (.newarray .int, 2) := by decide +kernel
theorem dX9_init_9 : decode cX9_init 9 = .ok (.putfield 9, 3) := by decide +kernel
theorem dX9_init_12 : decode cX9_init 12 = .ok (.aload_n 0, 1) := by decide +kernel
theorem dX9_init_13 : decode cX9_init 13 = .ok (.bipush 10, 2) := by decide +kernel
theorem dX9_init_15 : decode cX9_init 15 = .ok (.newarray .int, 2) := by decide +kernel
theorem dX9_init_17 : decode cX9_init 17 = .ok (.putfield 15, 3) := by decide +kernel
theorem dX9_init_20 : decode cX9_init 20 = .ok (.aload_n 0, 1) := by decide +kernel
theorem dX9_init_21 : decode cX9_init 21 = .ok (.iconst 5, 1) := by decide +kernel
theorem dX9_init_22 : decode cX9_init 22 = .ok (.newarray .int, 2) := by decide +kernel
theorem dX9_init_24 : decode cX9_init 24 = .ok (.putfield 18, 3) := by decide +kernel
theorem dX9_init_27 : decode cX9_init 27 = .ok (.aload_n 0, 1) := by decide +kernel
theorem dX9_init_28 : decode cX9_init 28 = .ok (.iconst 5, 1) := by decide +kernel
theorem dX9_init_29 : decode cX9_init 29 = .ok (.newarray .int, 2) := by decide +kernel
theorem dX9_init_31 : decode cX9_init 31 = .ok (.putfield 21, 3) := by decide +kernel
theorem dX9_init_34 : decode cX9_init 34 = .ok (.aload_n 0, 1) := by decide +kernel
theorem dX9_init_35 : decode cX9_init 35 = .ok (.iconst 5, 1) := by decide +kernel
theorem dX9_init_36 : decode cX9_init 36 = .ok (.newarray .int, 2) := by decide +kernel
theorem dX9_init_38 : decode cX9_init 38 = .ok (.putfield 24, 3) := by decide +kernel
theorem dX9_init_41 : decode cX9_init 41 = .ok (.aload_n 0, 1) := by decide +kernel
theorem dX9_init_42 : decode cX9_init 42 = .ok (.iconst 5, 1) := by decide +kernel
theorem dX9_init_43 : decode cX9_init 43 = .ok (.newarray .int, 2) := by decide +kernel
theorem dX9_init_45 : decode cX9_init 45 = .ok (.putfield 27, 3) := by decide +kernel
theorem dX9_init_48 : decode cX9_init 48 = .ok (.return_, 1) := by decide +kernel
set_option maxHeartbeats 4000000 in
set_option maxRecDepth 100000 in
theorem c_X9_init (l : Launch) (D : va_G) (ca : Nat → ClassId) (sz : Nat) (h0 : Nat)  : oMet l yX9_init wsX9_init ({ frames := 1, cells := 6, slots := 40, locals := 12 } : Room) [.ref h0] D ca sz [(h0, .inr (9, [.int 0, .int 0, .int 0, .int 0, .int 0, .null, .null, .null, .null, .null, .null]))] (oQv D (fun (u : Nat × Nat × Nat × Nat × Nat × Nat) => True) (fun (u : Nat × Nat × Nat × Nat × Nat × Nat) => [(h0, .inr (9, [.int 0, .int 0, .int 0, .int 0, .int 0, .ref u.1, .ref u.2.1, .ref u.2.2.1, .ref u.2.2.2.1, .ref u.2.2.2.2.1, .ref u.2.2.2.2.2])), (aI ca u.1 10 (fun _ => 0)), (aI ca u.2.1 10 (fun _ => 0)), (aI ca u.2.2.1 5 (fun _ => 0)), (aI ca u.2.2.2.1 5 (fun _ => 0)), (aI ca u.2.2.2.2.1 5 (fun _ => 0)), (aI ca u.2.2.2.2.2 5 (fun _ => 0))])) 6 40 := by
  refine oM (cc := cX9_init) (maxL := 1) (ret := none) (by decide) rfl (Nat.le_of_ble_eq_true rfl) [(0, .ref h0)] rfl ?_
  intro p e s m below meth c A H locs ls hx hb hr hml hts hown hlocks hin hK hP hD hA hS hl
  have hown : s.vm.findClass RX9 = some m.cls := hown
  have k1 := hts (.methodLink RX9 3 objectInit) (by decide +kernel)
  have k2 := hts (.instanceMethod objectInit) (by decide +kernel)
  have k3 := hts (.code objectInit ⟨#[0xb1]⟩ 1 none) (by decide +kernel)
  have k4 := hts (.arrayClass .int) (by decide +kernel)
  have k5 := hts (.fieldLink RX9 9 "LidCourt$Standing" "dents" "[I") (by decide +kernel)
  have k6 : ∀ w ∈ wsX90, w ∈ wsX9_init := fun _ h => List.mem_cons_of_mem _ (List.mem_append_right _ h)
  have k7 := hts (.fieldLink RX9 15 "LidCourt$Standing" "drops" "[I") (by decide +kernel)
  have k8 := hts (.fieldLink RX9 18 "LidCourt$Standing" "how" "[I") (by decide +kernel)
  have k9 := hts (.fieldLink RX9 21 "LidCourt$Standing" "triedOn" "[I") (by decide +kernel)
  have k10 := hts (.fieldLink RX9 24 "LidCourt$Standing" "dropped" "[I") (by decide +kernel)
  have k11 := hts (.fieldLink RX9 27 "LidCourt$Standing" "heldOn" "[I") (by decide +kernel)
  refine lv_aload_n hx hb dX9_init_0 rfl (lv_at hl 0 rfl) ?_
  refine W.objInit hx hb hown k1 k2 k3 rfl (by rw [hml]; exact hl.1) rfl dX9_init_1 (Nat.le_of_ble_eq_true rfl) (Nat.le_of_ble_eq_true rfl) ?_
  refine W.eq (g2 := F0 m 4 ls []) rfl ?_
  refine lv_aload_n hx hb dX9_init_4 rfl (lv_at hl 0 rfl) ?_
  refine lv_bipush (v := 10) hx hb dX9_init_5 (by decide) ?_
  refine onewa hx hb (atype := .int) (ty := .int) k4 rfl hK hP hD hS hA 0 rfl (n := 10) (N' := 10) (10, .inl (fun _ => 0)) (fun _ => rfl) (by decide) (by decide) (by decide) (Nat.le_of_ble_eq_true rfl) (Nat.le_of_ble_eq_true rfl) dX9_init_7 (fun q_1 H hP hD hS => ?_)
  have hP : va_P D vwCl [(h0, .inr (9, [.int 0, .int 0, .int 0, .int 0, .int 0, .null, .null, .null, .null, .null, .null])), (aI ca q_1 10 (fun _ => 0))] H := hP
  have hD : va_D A [(h0, .inr (9, [.int 0, .int 0, .int 0, .int 0, .int 0, .null, .null, .null, .null, .null, .null])), (aI ca q_1 10 (fun _ => 0))] := hD
  refine W.widen (k := 1) (n := 10) (Nat.le_of_ble_eq_true rfl) (Nat.le_of_ble_eq_true rfl) ?_
  refine va_putF (D := D) (ci := 9) (v := .ref q_1) (ty := .array .int) (C := RX9) (T := TX9) (N := 11) hx hb hts k6 tyX9 tyX9_ok nmX9 hown hK.1 hP hD hS 0 rfl rfl 5 (by decide) k5 (fun _ h9 => h9) rfl hin rfl (by decide +kernel) rfl rfl (Nat.le_of_ble_eq_true rfl) dX9_init_9 (fun H locs hP hD hS => ?_)
  have hP : va_P D vwCl [(h0, .inr (9, [.int 0, .int 0, .int 0, .int 0, .int 0, .ref q_1, .null, .null, .null, .null, .null])), (aI ca q_1 10 (fun _ => 0))] H := hP
  have hD : va_D A [(h0, .inr (9, [.int 0, .int 0, .int 0, .int 0, .int 0, .ref q_1, .null, .null, .null, .null, .null])), (aI ca q_1 10 (fun _ => 0))] := hD
  refine lv_aload_n hx hb dX9_init_12 rfl (lv_at hl 0 rfl) ?_
  refine lv_bipush (v := 10) hx hb dX9_init_13 (by decide) ?_
  refine onewa hx hb (atype := .int) (ty := .int) k4 rfl hK hP hD hS hA 0 rfl (n := 10) (N' := 10) (10, .inl (fun _ => 0)) (fun _ => rfl) (by decide) (by decide) (by decide) (Nat.le_of_ble_eq_true rfl) (Nat.le_of_ble_eq_true rfl) dX9_init_15 (fun q_2 H hP hD hS => ?_)
  have hP : va_P D vwCl [(h0, .inr (9, [.int 0, .int 0, .int 0, .int 0, .int 0, .ref q_1, .null, .null, .null, .null, .null])), (aI ca q_1 10 (fun _ => 0)), (aI ca q_2 10 (fun _ => 0))] H := hP
  have hD : va_D A [(h0, .inr (9, [.int 0, .int 0, .int 0, .int 0, .int 0, .ref q_1, .null, .null, .null, .null, .null])), (aI ca q_1 10 (fun _ => 0)), (aI ca q_2 10 (fun _ => 0))] := hD
  refine W.widen (k := 2) (n := 20) (Nat.le_of_ble_eq_true rfl) (Nat.le_of_ble_eq_true rfl) ?_
  refine va_putF (D := D) (ci := 9) (v := .ref q_2) (ty := .array .int) (C := RX9) (T := TX9) (N := 11) hx hb hts k6 tyX9 tyX9_ok nmX9 hown hK.1 hP hD hS 0 rfl rfl 6 (by decide) k7 (fun _ h9 => h9) rfl hin rfl (by decide +kernel) rfl rfl (Nat.le_of_ble_eq_true rfl) dX9_init_17 (fun H locs hP hD hS => ?_)
  have hP : va_P D vwCl [(h0, .inr (9, [.int 0, .int 0, .int 0, .int 0, .int 0, .ref q_1, .ref q_2, .null, .null, .null, .null])), (aI ca q_1 10 (fun _ => 0)), (aI ca q_2 10 (fun _ => 0))] H := hP
  have hD : va_D A [(h0, .inr (9, [.int 0, .int 0, .int 0, .int 0, .int 0, .ref q_1, .ref q_2, .null, .null, .null, .null])), (aI ca q_1 10 (fun _ => 0)), (aI ca q_2 10 (fun _ => 0))] := hD
  refine lv_aload_n hx hb dX9_init_20 rfl (lv_at hl 0 rfl) ?_
  refine lv_iconst (v := 5) hx hb dX9_init_21 (by decide) ?_
  refine onewa hx hb (atype := .int) (ty := .int) k4 rfl hK hP hD hS hA 0 rfl (n := 5) (N' := 5) (5, .inl (fun _ => 0)) (fun _ => rfl) (by decide) (by decide) (by decide) (Nat.le_of_ble_eq_true rfl) (Nat.le_of_ble_eq_true rfl) dX9_init_22 (fun q_3 H hP hD hS => ?_)
  have hP : va_P D vwCl [(h0, .inr (9, [.int 0, .int 0, .int 0, .int 0, .int 0, .ref q_1, .ref q_2, .null, .null, .null, .null])), (aI ca q_1 10 (fun _ => 0)), (aI ca q_2 10 (fun _ => 0)), (aI ca q_3 5 (fun _ => 0))] H := hP
  have hD : va_D A [(h0, .inr (9, [.int 0, .int 0, .int 0, .int 0, .int 0, .ref q_1, .ref q_2, .null, .null, .null, .null])), (aI ca q_1 10 (fun _ => 0)), (aI ca q_2 10 (fun _ => 0)), (aI ca q_3 5 (fun _ => 0))] := hD
  refine W.widen (k := 3) (n := 25) (Nat.le_of_ble_eq_true rfl) (Nat.le_of_ble_eq_true rfl) ?_
  refine va_putF (D := D) (ci := 9) (v := .ref q_3) (ty := .array .int) (C := RX9) (T := TX9) (N := 11) hx hb hts k6 tyX9 tyX9_ok nmX9 hown hK.1 hP hD hS 0 rfl rfl 7 (by decide) k8 (fun _ h9 => h9) rfl hin rfl (by decide +kernel) rfl rfl (Nat.le_of_ble_eq_true rfl) dX9_init_24 (fun H locs hP hD hS => ?_)
  have hP : va_P D vwCl [(h0, .inr (9, [.int 0, .int 0, .int 0, .int 0, .int 0, .ref q_1, .ref q_2, .ref q_3, .null, .null, .null])), (aI ca q_1 10 (fun _ => 0)), (aI ca q_2 10 (fun _ => 0)), (aI ca q_3 5 (fun _ => 0))] H := hP
  have hD : va_D A [(h0, .inr (9, [.int 0, .int 0, .int 0, .int 0, .int 0, .ref q_1, .ref q_2, .ref q_3, .null, .null, .null])), (aI ca q_1 10 (fun _ => 0)), (aI ca q_2 10 (fun _ => 0)), (aI ca q_3 5 (fun _ => 0))] := hD
  refine lv_aload_n hx hb dX9_init_27 rfl (lv_at hl 0 rfl) ?_
  refine lv_iconst (v := 5) hx hb dX9_init_28 (by decide) ?_
  refine onewa hx hb (atype := .int) (ty := .int) k4 rfl hK hP hD hS hA 0 rfl (n := 5) (N' := 5) (5, .inl (fun _ => 0)) (fun _ => rfl) (by decide) (by decide) (by decide) (Nat.le_of_ble_eq_true rfl) (Nat.le_of_ble_eq_true rfl) dX9_init_29 (fun q_4 H hP hD hS => ?_)
  have hP : va_P D vwCl [(h0, .inr (9, [.int 0, .int 0, .int 0, .int 0, .int 0, .ref q_1, .ref q_2, .ref q_3, .null, .null, .null])), (aI ca q_1 10 (fun _ => 0)), (aI ca q_2 10 (fun _ => 0)), (aI ca q_3 5 (fun _ => 0)), (aI ca q_4 5 (fun _ => 0))] H := hP
  have hD : va_D A [(h0, .inr (9, [.int 0, .int 0, .int 0, .int 0, .int 0, .ref q_1, .ref q_2, .ref q_3, .null, .null, .null])), (aI ca q_1 10 (fun _ => 0)), (aI ca q_2 10 (fun _ => 0)), (aI ca q_3 5 (fun _ => 0)), (aI ca q_4 5 (fun _ => 0))] := hD
  refine W.widen (k := 4) (n := 30) (Nat.le_of_ble_eq_true rfl) (Nat.le_of_ble_eq_true rfl) ?_
  refine va_putF (D := D) (ci := 9) (v := .ref q_4) (ty := .array .int) (C := RX9) (T := TX9) (N := 11) hx hb hts k6 tyX9 tyX9_ok nmX9 hown hK.1 hP hD hS 0 rfl rfl 8 (by decide) k9 (fun _ h9 => h9) rfl hin rfl (by decide +kernel) rfl rfl (Nat.le_of_ble_eq_true rfl) dX9_init_31 (fun H locs hP hD hS => ?_)
  have hP : va_P D vwCl [(h0, .inr (9, [.int 0, .int 0, .int 0, .int 0, .int 0, .ref q_1, .ref q_2, .ref q_3, .ref q_4, .null, .null])), (aI ca q_1 10 (fun _ => 0)), (aI ca q_2 10 (fun _ => 0)), (aI ca q_3 5 (fun _ => 0)), (aI ca q_4 5 (fun _ => 0))] H := hP
  have hD : va_D A [(h0, .inr (9, [.int 0, .int 0, .int 0, .int 0, .int 0, .ref q_1, .ref q_2, .ref q_3, .ref q_4, .null, .null])), (aI ca q_1 10 (fun _ => 0)), (aI ca q_2 10 (fun _ => 0)), (aI ca q_3 5 (fun _ => 0)), (aI ca q_4 5 (fun _ => 0))] := hD
  refine lv_aload_n hx hb dX9_init_34 rfl (lv_at hl 0 rfl) ?_
  refine lv_iconst (v := 5) hx hb dX9_init_35 (by decide) ?_
  refine onewa hx hb (atype := .int) (ty := .int) k4 rfl hK hP hD hS hA 0 rfl (n := 5) (N' := 5) (5, .inl (fun _ => 0)) (fun _ => rfl) (by decide) (by decide) (by decide) (Nat.le_of_ble_eq_true rfl) (Nat.le_of_ble_eq_true rfl) dX9_init_36 (fun q_5 H hP hD hS => ?_)
  have hP : va_P D vwCl [(h0, .inr (9, [.int 0, .int 0, .int 0, .int 0, .int 0, .ref q_1, .ref q_2, .ref q_3, .ref q_4, .null, .null])), (aI ca q_1 10 (fun _ => 0)), (aI ca q_2 10 (fun _ => 0)), (aI ca q_3 5 (fun _ => 0)), (aI ca q_4 5 (fun _ => 0)), (aI ca q_5 5 (fun _ => 0))] H := hP
  have hD : va_D A [(h0, .inr (9, [.int 0, .int 0, .int 0, .int 0, .int 0, .ref q_1, .ref q_2, .ref q_3, .ref q_4, .null, .null])), (aI ca q_1 10 (fun _ => 0)), (aI ca q_2 10 (fun _ => 0)), (aI ca q_3 5 (fun _ => 0)), (aI ca q_4 5 (fun _ => 0)), (aI ca q_5 5 (fun _ => 0))] := hD
  refine W.widen (k := 5) (n := 35) (Nat.le_of_ble_eq_true rfl) (Nat.le_of_ble_eq_true rfl) ?_
  refine va_putF (D := D) (ci := 9) (v := .ref q_5) (ty := .array .int) (C := RX9) (T := TX9) (N := 11) hx hb hts k6 tyX9 tyX9_ok nmX9 hown hK.1 hP hD hS 0 rfl rfl 9 (by decide) k10 (fun _ h9 => h9) rfl hin rfl (by decide +kernel) rfl rfl (Nat.le_of_ble_eq_true rfl) dX9_init_38 (fun H locs hP hD hS => ?_)
  have hP : va_P D vwCl [(h0, .inr (9, [.int 0, .int 0, .int 0, .int 0, .int 0, .ref q_1, .ref q_2, .ref q_3, .ref q_4, .ref q_5, .null])), (aI ca q_1 10 (fun _ => 0)), (aI ca q_2 10 (fun _ => 0)), (aI ca q_3 5 (fun _ => 0)), (aI ca q_4 5 (fun _ => 0)), (aI ca q_5 5 (fun _ => 0))] H := hP
  have hD : va_D A [(h0, .inr (9, [.int 0, .int 0, .int 0, .int 0, .int 0, .ref q_1, .ref q_2, .ref q_3, .ref q_4, .ref q_5, .null])), (aI ca q_1 10 (fun _ => 0)), (aI ca q_2 10 (fun _ => 0)), (aI ca q_3 5 (fun _ => 0)), (aI ca q_4 5 (fun _ => 0)), (aI ca q_5 5 (fun _ => 0))] := hD
  refine lv_aload_n hx hb dX9_init_41 rfl (lv_at hl 0 rfl) ?_
  refine lv_iconst (v := 5) hx hb dX9_init_42 (by decide) ?_
  refine onewa hx hb (atype := .int) (ty := .int) k4 rfl hK hP hD hS hA 0 rfl (n := 5) (N' := 5) (5, .inl (fun _ => 0)) (fun _ => rfl) (by decide) (by decide) (by decide) (Nat.le_of_ble_eq_true rfl) (Nat.le_of_ble_eq_true rfl) dX9_init_43 (fun q_6 H hP hD hS => ?_)
  have hP : va_P D vwCl [(h0, .inr (9, [.int 0, .int 0, .int 0, .int 0, .int 0, .ref q_1, .ref q_2, .ref q_3, .ref q_4, .ref q_5, .null])), (aI ca q_1 10 (fun _ => 0)), (aI ca q_2 10 (fun _ => 0)), (aI ca q_3 5 (fun _ => 0)), (aI ca q_4 5 (fun _ => 0)), (aI ca q_5 5 (fun _ => 0)), (aI ca q_6 5 (fun _ => 0))] H := hP
  have hD : va_D A [(h0, .inr (9, [.int 0, .int 0, .int 0, .int 0, .int 0, .ref q_1, .ref q_2, .ref q_3, .ref q_4, .ref q_5, .null])), (aI ca q_1 10 (fun _ => 0)), (aI ca q_2 10 (fun _ => 0)), (aI ca q_3 5 (fun _ => 0)), (aI ca q_4 5 (fun _ => 0)), (aI ca q_5 5 (fun _ => 0)), (aI ca q_6 5 (fun _ => 0))] := hD
  refine W.widen (k := 6) (n := 40) (Nat.le_of_ble_eq_true rfl) (Nat.le_of_ble_eq_true rfl) ?_
  refine va_putF (D := D) (ci := 9) (v := .ref q_6) (ty := .array .int) (C := RX9) (T := TX9) (N := 11) hx hb hts k6 tyX9 tyX9_ok nmX9 hown hK.1 hP hD hS 0 rfl rfl 10 (by decide) k11 (fun _ h9 => h9) rfl hin rfl (by decide +kernel) rfl rfl (Nat.le_of_ble_eq_true rfl) dX9_init_45 (fun H locs hP hD hS => ?_)
  have hP : va_P D vwCl [(h0, .inr (9, [.int 0, .int 0, .int 0, .int 0, .int 0, .ref q_1, .ref q_2, .ref q_3, .ref q_4, .ref q_5, .ref q_6])), (aI ca q_1 10 (fun _ => 0)), (aI ca q_2 10 (fun _ => 0)), (aI ca q_3 5 (fun _ => 0)), (aI ca q_4 5 (fun _ => 0)), (aI ca q_5 5 (fun _ => 0)), (aI ca q_6 5 (fun _ => 0))] H := hP
  have hD : va_D A [(h0, .inr (9, [.int 0, .int 0, .int 0, .int 0, .int 0, .ref q_1, .ref q_2, .ref q_3, .ref q_4, .ref q_5, .ref q_6])), (aI ca q_1 10 (fun _ => 0)), (aI ca q_2 10 (fun _ => 0)), (aI ca q_3 5 (fun _ => 0)), (aI ca q_4 5 (fun _ => 0)), (aI ca q_5 5 (fun _ => 0)), (aI ca q_6 5 (fun _ => 0))] := hD
  exact oE_v hx hb hr hlocks hP hD hS (q_1, q_2, q_3, q_4, q_5, q_6) [0, 1, 2, 3, 4, 5, 6] rfl (by decide) trivial (Nat.le_of_ble_eq_true rfl) (Nat.le_of_ble_eq_true rfl) dX9_init_48
theorem dX7_init_0 : decode cX7_init 0 = .ok (.aload_n 0, 1) := by decide +kernel
theorem dX7_init_1 : decode cX7_init 1 = .ok (.invokespecial 3, 3) := by decide +kernel
theorem dX7_init_4 : decode cX7_init 4 = .ok (.aload_n 0, 1) := by decide +kernel
theorem dX7_init_5 : decode cX7_init 5 = .ok (.bipush 40, 2) := by decide +kernel
theorem dX7_init_7 : decode cX7_init 7 = .ok (.anewarray 11, 3) := by decide +kernel
theorem dX7_init_10 : decode cX7_init 10 = .ok (.putfield 13, 3) := by decide +kernel
theorem dX7_init_13 : decode cX7_init 13 = .ok (.aload_n 0, 1) := by decide +kernel
theorem dX7_init_14 : decode cX7_init 14 = .ok (.bipush 40, 2) := by decide +kernel
theorem dX7_init_16 : decode cX7_init 16 = .ok (.newarray .int, 2) := by decide +kernel
theorem dX7_init_18 : decode cX7_init 18 = .ok (.putfield 17, 3) := by decide +kernel
theorem dX7_init_21 : decode cX7_init 21 = .ok (.aload_n 0, 1) := by decide +kernel
theorem dX7_init_22 : decode cX7_init 22 = .ok (.bipush 40, 2) := by decide +kernel
theorem dX7_init_24 : decode cX7_init 24 = .ok (.newarray .int, 2) := by decide +kernel
theorem dX7_init_26 : decode cX7_init 26 = .ok (.putfield 21, 3) := by decide +kernel
theorem dX7_init_29 : decode cX7_init 29 = .ok (.aload_n 0, 1) := by decide +kernel
theorem dX7_init_30 : decode cX7_init 30 = .ok (.bipush 20, 2) := by decide +kernel
theorem dX7_init_32 : decode cX7_init 32 = .ok (.newarray .int, 2) := by decide +kernel
theorem dX7_init_34 : decode cX7_init 34 = .ok (.putfield 24, 3) := by decide +kernel
theorem dX7_init_37 : decode cX7_init 37 = .ok (.return_, 1) := by decide +kernel
set_option maxHeartbeats 4000000 in
set_option maxRecDepth 100000 in
theorem c_X7_init (l : Launch) (D : va_G) (ca : Nat → ClassId) (sz : Nat) (h0 : Nat)  : oMet l yX7_init wsX7_init ({ frames := 1, cells := 4, slots := 140, locals := 12 } : Room) [.ref h0] D ca sz [(h0, .inr (7, [.int 0, .int 0, .null, .null, .null, .null]))] (oQv D (fun (u : Nat × Nat × Nat × Nat) => True) (fun (u : Nat × Nat × Nat × Nat) => [(h0, .inr (7, [.int 0, .int 0, .ref u.1, .ref u.2.1, .ref u.2.2.1, .ref u.2.2.2])), (aW ca u.1 40 (fun _ => none)), (aI ca u.2.1 40 (fun _ => 0)), (aI ca u.2.2.1 40 (fun _ => 0)), (aI ca u.2.2.2 20 (fun _ => 0))])) 4 140 := by
  refine oM (cc := cX7_init) (maxL := 1) (ret := none) (by decide) rfl (Nat.le_of_ble_eq_true rfl) [(0, .ref h0)] rfl ?_
  intro p e s m below meth c A H locs ls hx hb hr hml hts hown hlocks hin hK hP hD hA hS hl
  have hown : s.vm.findClass RX7 = some m.cls := hown
  have k1 := hts (.methodLink RX7 3 objectInit) (by decide +kernel)
  have k2 := hts (.instanceMethod objectInit) (by decide +kernel)
  have k3 := hts (.code objectInit ⟨#[0xb1]⟩ 1 none) (by decide +kernel)
  have k4 := hts (.classLink RX7 11 RX10) (by decide +kernel)
  have k5 := hts (.fieldLink RX7 13 "LidCourt$Saying" "word" "[LLidCourt$Word;") (by decide +kernel)
  have k6 : ∀ w ∈ wsX70, w ∈ wsX7_init := fun _ h => List.mem_cons_of_mem _ (List.mem_append_right _ h)
  have k7 := hts (.arrayClass .int) (by decide +kernel)
  have k8 := hts (.fieldLink RX7 17 "LidCourt$Saying" "first" "[I") (by decide +kernel)
  have k9 := hts (.fieldLink RX7 21 "LidCourt$Saying" "second" "[I") (by decide +kernel)
  have k10 := hts (.fieldLink RX7 24 "LidCourt$Saying" "sets" "[I") (by decide +kernel)
  refine lv_aload_n hx hb dX7_init_0 rfl (lv_at hl 0 rfl) ?_
  refine W.objInit hx hb hown k1 k2 k3 rfl (by rw [hml]; exact hl.1) rfl dX7_init_1 (Nat.le_of_ble_eq_true rfl) (Nat.le_of_ble_eq_true rfl) ?_
  refine W.eq (g2 := F0 m 4 ls []) rfl ?_
  refine lv_aload_n hx hb dX7_init_4 rfl (lv_at hl 0 rfl) ?_
  refine lv_bipush (v := 40) hx hb dX7_init_5 (by decide) ?_
  refine onewq (C := "LidCourt$Word") hx hb hown k4 hK.2.2.2.2.2 hK hP hD hS hA 6 rfl (n := 40) (N' := 40) (by decide) (by decide) (by decide) (Nat.le_of_ble_eq_true rfl) (Nat.le_of_ble_eq_true rfl) dX7_init_7 (fun q_1 H hP hD hS => ?_)
  have hP : va_P D vwCl [(h0, .inr (7, [.int 0, .int 0, .null, .null, .null, .null])), (aW ca q_1 40 (fun _ => none))] H := hP
  have hD : va_D A [(h0, .inr (7, [.int 0, .int 0, .null, .null, .null, .null])), (aW ca q_1 40 (fun _ => none))] := hD
  refine W.widen (k := 1) (n := 40) (Nat.le_of_ble_eq_true rfl) (Nat.le_of_ble_eq_true rfl) ?_
  refine va_putF (D := D) (ci := 7) (v := .ref q_1) (ty := .array (.object "LidCourt$Word")) (C := RX7) (T := TX7) (N := 6) hx hb hts k6 tyX7 tyX7_ok nmX7 hown hK.1 hP hD hS 0 rfl rfl 2 (by decide) k5 (fun _ h9 => h9) rfl hin rfl (by decide +kernel) rfl rfl (Nat.le_of_ble_eq_true rfl) dX7_init_10 (fun H locs hP hD hS => ?_)
  have hP : va_P D vwCl [(h0, .inr (7, [.int 0, .int 0, .ref q_1, .null, .null, .null])), (aW ca q_1 40 (fun _ => none))] H := hP
  have hD : va_D A [(h0, .inr (7, [.int 0, .int 0, .ref q_1, .null, .null, .null])), (aW ca q_1 40 (fun _ => none))] := hD
  refine lv_aload_n hx hb dX7_init_13 rfl (lv_at hl 0 rfl) ?_
  refine lv_bipush (v := 40) hx hb dX7_init_14 (by decide) ?_
  refine onewa hx hb (atype := .int) (ty := .int) k7 rfl hK hP hD hS hA 0 rfl (n := 40) (N' := 40) (40, .inl (fun _ => 0)) (fun _ => rfl) (by decide) (by decide) (by decide) (Nat.le_of_ble_eq_true rfl) (Nat.le_of_ble_eq_true rfl) dX7_init_16 (fun q_2 H hP hD hS => ?_)
  have hP : va_P D vwCl [(h0, .inr (7, [.int 0, .int 0, .ref q_1, .null, .null, .null])), (aW ca q_1 40 (fun _ => none)), (aI ca q_2 40 (fun _ => 0))] H := hP
  have hD : va_D A [(h0, .inr (7, [.int 0, .int 0, .ref q_1, .null, .null, .null])), (aW ca q_1 40 (fun _ => none)), (aI ca q_2 40 (fun _ => 0))] := hD
  refine W.widen (k := 2) (n := 80) (Nat.le_of_ble_eq_true rfl) (Nat.le_of_ble_eq_true rfl) ?_
  refine va_putF (D := D) (ci := 7) (v := .ref q_2) (ty := .array .int) (C := RX7) (T := TX7) (N := 6) hx hb hts k6 tyX7 tyX7_ok nmX7 hown hK.1 hP hD hS 0 rfl rfl 3 (by decide) k8 (fun _ h9 => h9) rfl hin rfl (by decide +kernel) rfl rfl (Nat.le_of_ble_eq_true rfl) dX7_init_18 (fun H locs hP hD hS => ?_)
  have hP : va_P D vwCl [(h0, .inr (7, [.int 0, .int 0, .ref q_1, .ref q_2, .null, .null])), (aW ca q_1 40 (fun _ => none)), (aI ca q_2 40 (fun _ => 0))] H := hP
  have hD : va_D A [(h0, .inr (7, [.int 0, .int 0, .ref q_1, .ref q_2, .null, .null])), (aW ca q_1 40 (fun _ => none)), (aI ca q_2 40 (fun _ => 0))] := hD
  refine lv_aload_n hx hb dX7_init_21 rfl (lv_at hl 0 rfl) ?_
  refine lv_bipush (v := 40) hx hb dX7_init_22 (by decide) ?_
  refine onewa hx hb (atype := .int) (ty := .int) k7 rfl hK hP hD hS hA 0 rfl (n := 40) (N' := 40) (40, .inl (fun _ => 0)) (fun _ => rfl) (by decide) (by decide) (by decide) (Nat.le_of_ble_eq_true rfl) (Nat.le_of_ble_eq_true rfl) dX7_init_24 (fun q_3 H hP hD hS => ?_)
  have hP : va_P D vwCl [(h0, .inr (7, [.int 0, .int 0, .ref q_1, .ref q_2, .null, .null])), (aW ca q_1 40 (fun _ => none)), (aI ca q_2 40 (fun _ => 0)), (aI ca q_3 40 (fun _ => 0))] H := hP
  have hD : va_D A [(h0, .inr (7, [.int 0, .int 0, .ref q_1, .ref q_2, .null, .null])), (aW ca q_1 40 (fun _ => none)), (aI ca q_2 40 (fun _ => 0)), (aI ca q_3 40 (fun _ => 0))] := hD
  refine W.widen (k := 3) (n := 120) (Nat.le_of_ble_eq_true rfl) (Nat.le_of_ble_eq_true rfl) ?_
  refine va_putF (D := D) (ci := 7) (v := .ref q_3) (ty := .array .int) (C := RX7) (T := TX7) (N := 6) hx hb hts k6 tyX7 tyX7_ok nmX7 hown hK.1 hP hD hS 0 rfl rfl 4 (by decide) k9 (fun _ h9 => h9) rfl hin rfl (by decide +kernel) rfl rfl (Nat.le_of_ble_eq_true rfl) dX7_init_26 (fun H locs hP hD hS => ?_)
  have hP : va_P D vwCl [(h0, .inr (7, [.int 0, .int 0, .ref q_1, .ref q_2, .ref q_3, .null])), (aW ca q_1 40 (fun _ => none)), (aI ca q_2 40 (fun _ => 0)), (aI ca q_3 40 (fun _ => 0))] H := hP
  have hD : va_D A [(h0, .inr (7, [.int 0, .int 0, .ref q_1, .ref q_2, .ref q_3, .null])), (aW ca q_1 40 (fun _ => none)), (aI ca q_2 40 (fun _ => 0)), (aI ca q_3 40 (fun _ => 0))] := hD
  refine lv_aload_n hx hb dX7_init_29 rfl (lv_at hl 0 rfl) ?_
  refine lv_bipush (v := 20) hx hb dX7_init_30 (by decide) ?_
  refine onewa hx hb (atype := .int) (ty := .int) k7 rfl hK hP hD hS hA 0 rfl (n := 20) (N' := 20) (20, .inl (fun _ => 0)) (fun _ => rfl) (by decide) (by decide) (by decide) (Nat.le_of_ble_eq_true rfl) (Nat.le_of_ble_eq_true rfl) dX7_init_32 (fun q_4 H hP hD hS => ?_)
  have hP : va_P D vwCl [(h0, .inr (7, [.int 0, .int 0, .ref q_1, .ref q_2, .ref q_3, .null])), (aW ca q_1 40 (fun _ => none)), (aI ca q_2 40 (fun _ => 0)), (aI ca q_3 40 (fun _ => 0)), (aI ca q_4 20 (fun _ => 0))] H := hP
  have hD : va_D A [(h0, .inr (7, [.int 0, .int 0, .ref q_1, .ref q_2, .ref q_3, .null])), (aW ca q_1 40 (fun _ => none)), (aI ca q_2 40 (fun _ => 0)), (aI ca q_3 40 (fun _ => 0)), (aI ca q_4 20 (fun _ => 0))] := hD
  refine W.widen (k := 4) (n := 140) (Nat.le_of_ble_eq_true rfl) (Nat.le_of_ble_eq_true rfl) ?_
  refine va_putF (D := D) (ci := 7) (v := .ref q_4) (ty := .array .int) (C := RX7) (T := TX7) (N := 6) hx hb hts k6 tyX7 tyX7_ok nmX7 hown hK.1 hP hD hS 0 rfl rfl 5 (by decide) k10 (fun _ h9 => h9) rfl hin rfl (by decide +kernel) rfl rfl (Nat.le_of_ble_eq_true rfl) dX7_init_34 (fun H locs hP hD hS => ?_)
  have hP : va_P D vwCl [(h0, .inr (7, [.int 0, .int 0, .ref q_1, .ref q_2, .ref q_3, .ref q_4])), (aW ca q_1 40 (fun _ => none)), (aI ca q_2 40 (fun _ => 0)), (aI ca q_3 40 (fun _ => 0)), (aI ca q_4 20 (fun _ => 0))] H := hP
  have hD : va_D A [(h0, .inr (7, [.int 0, .int 0, .ref q_1, .ref q_2, .ref q_3, .ref q_4])), (aW ca q_1 40 (fun _ => none)), (aI ca q_2 40 (fun _ => 0)), (aI ca q_3 40 (fun _ => 0)), (aI ca q_4 20 (fun _ => 0))] := hD
  exact oE_v hx hb hr hlocks hP hD hS (q_1, q_2, q_3, q_4) [0, 1, 2, 3, 4] rfl (by decide) trivial (Nat.le_of_ble_eq_true rfl) (Nat.le_of_ble_eq_true rfl) dX7_init_37
