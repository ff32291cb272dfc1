theorem dX6_sees_0 : decode cX6_sees 0 = .ok (.aload_n 0, 1) := by decide +kernel
theorem dX6_sees_1 : decode cX6_sees 1 = .ok (.getfield 51, 3) := by decide +kernel
theorem dX6_sees_4 : decode cX6_sees 4 = .ok (.iconst 2, 1) := by decide +kernel
theorem dX6_sees_5 : decode cX6_sees 5 = .ok (.if_icmp .ne 19, 3) := by decide +kernel
theorem dX6_sees_24 : decode cX6_sees 24 = .ok (.iconst 0, 1) := by decide +kernel
theorem dX6_sees_25 : decode cX6_sees 25 = .ok (.ireturn, 1) := by decide +kernel
set_option maxHeartbeats 4000000 in
set_option maxRecDepth 100000 in
theorem c_sees_1 (l : Launch) (D : va_G) (ca : Nat → ClassId) (sz : Nat) (t0 : Nat) (wd : Nat) (r_bytes : Nat) (r_length : Int32) (r_faultKind : Int32) (r_faultAt : Int32) (r_letters : Int64) (r_mostBytes : Int32) (r_behind : Int32) (r_at : Int32) (r_number : Int32)  : oMet l yX6_sees wsX6_sees ({ frames := 0, cells := 0, slots := 0, locals := 0 } : Room) [.ref t0, .ref wd] D ca sz [(t0, .inr (6, [.ref r_bytes, .int r_length, .int r_faultKind, .int r_faultAt, .long r_letters, .int r_mostBytes, .int r_behind, .int r_at, .int 1, .int r_number]))] (oQi D (fun (r : Int32) (u : Unit) => r = 0) (fun (u : Unit) => [(t0, .inr (6, [.ref r_bytes, .int r_length, .int r_faultKind, .int r_faultAt, .long r_letters, .int r_mostBytes, .int r_behind, .int r_at, .int 1, .int r_number]))])) 0 0 := by
  refine oM (cc := cX6_sees) (maxL := 2) (ret := (some .boolean)) (by decide) rfl (Nat.le_of_ble_eq_true rfl) [(0, .ref t0), (1, .ref wd)] rfl ?_
  intro p e s m below meth c A H locs ls hx hb hr hml hts hown hlocks hin hK hP hD hA hS hl
  have hown : s.vm.findClass RX6 = some m.cls := hown
  have k1 := hts (.fieldLink RX6 51 "LidCourt$Reader" "kind" "I") (by decide +kernel)
  have k2 : ∀ w ∈ wsX60, w ∈ wsX6_sees := fun _ h => List.mem_cons_of_mem _ (List.mem_append_right _ h)
  refine lv_aload_n hx hb dX6_sees_0 rfl (lv_at hl 0 rfl) ?_
  refine va_get (D := D) (ci := 6) (v := .int 1) (C := RX6) (T := TX6) (N := 10) hx hb hts k2 hown hK.1 hP 0 rfl rfl 8 (by decide) k1 (fun _ h9 => h9) rfl dX6_sees_1 ?_
  refine lv_iconst (v := 2) hx hb dX6_sees_4 (by decide) ?_
  refine lv_icmp_ne (tgt := 24) hx hb dX6_sees_5 (by decide) (fun _ => ?_) (fun c => absurd c (by decide))
  refine lv_iconst (v := 0) hx hb dX6_sees_24 (by decide) ?_
  exact oE_i hx hb hr (by decide) hlocks hP hD hS () [0] rfl (by decide) rfl (Nat.le_of_ble_eq_true rfl) (Nat.le_of_ble_eq_true rfl) dX6_sees_25
set_option maxHeartbeats 4000000 in
set_option maxRecDepth 100000 in
theorem c_sees_0 (l : Launch) (D : va_G) (ca : Nat → ClassId) (sz : Nat) (t0 : Nat) (wd : Nat) (r_bytes : Nat) (r_length : Int32) (r_faultKind : Int32) (r_faultAt : Int32) (r_letters : Int64) (r_mostBytes : Int32) (r_behind : Int32) (r_at : Int32) (r_number : Int32)  : oMet l yX6_sees wsX6_sees ({ frames := 0, cells := 0, slots := 0, locals := 0 } : Room) [.ref t0, .ref wd] D ca sz [(t0, .inr (6, [.ref r_bytes, .int r_length, .int r_faultKind, .int r_faultAt, .long r_letters, .int r_mostBytes, .int r_behind, .int r_at, .int 0, .int r_number]))] (oQi D (fun (r : Int32) (u : Unit) => r = 0) (fun (u : Unit) => [(t0, .inr (6, [.ref r_bytes, .int r_length, .int r_faultKind, .int r_faultAt, .long r_letters, .int r_mostBytes, .int r_behind, .int r_at, .int 0, .int r_number]))])) 0 0 := by
  refine oM (cc := cX6_sees) (maxL := 2) (ret := (some .boolean)) (by decide) rfl (Nat.le_of_ble_eq_true rfl) [(0, .ref t0), (1, .ref wd)] rfl ?_
  intro p e s m below meth c A H locs ls hx hb hr hml hts hown hlocks hin hK hP hD hA hS hl
  have hown : s.vm.findClass RX6 = some m.cls := hown
  have k1 := hts (.fieldLink RX6 51 "LidCourt$Reader" "kind" "I") (by decide +kernel)
  have k2 : ∀ w ∈ wsX60, w ∈ wsX6_sees := fun _ h => List.mem_cons_of_mem _ (List.mem_append_right _ h)
  refine lv_aload_n hx hb dX6_sees_0 rfl (lv_at hl 0 rfl) ?_
  refine va_get (D := D) (ci := 6) (v := .int 0) (C := RX6) (T := TX6) (N := 10) hx hb hts k2 hown hK.1 hP 0 rfl rfl 8 (by decide) k1 (fun _ h9 => h9) rfl dX6_sees_1 ?_
  refine lv_iconst (v := 2) hx hb dX6_sees_4 (by decide) ?_
  refine lv_icmp_ne (tgt := 24) hx hb dX6_sees_5 (by decide) (fun _ => ?_) (fun c => absurd c (by decide))
  refine lv_iconst (v := 0) hx hb dX6_sees_24 (by decide) ?_
  exact oE_i hx hb hr (by decide) hlocks hP hD hS () [0] rfl (by decide) rfl (Nat.le_of_ble_eq_true rfl) (Nat.le_of_ble_eq_true rfl) dX6_sees_25
theorem dX6_seesSign_0 : decode cX6_seesSign 0 = .ok (.aload_n 0, 1) := by decide +kernel
theorem dX6_seesSign_1 : decode cX6_seesSign 1 = .ok (.getfield 51, 3) := by decide +kernel
theorem dX6_seesSign_4 : decode cX6_seesSign 4 = .ok (.iload_n 1, 1) := by decide +kernel
theorem dX6_seesSign_5 : decode cX6_seesSign 5 = .ok (.if_icmp .ne 7, 3) := by decide +kernel
theorem dX6_seesSign_12 : decode cX6_seesSign 12 = .ok (.iconst 0, 1) := by decide +kernel
theorem dX6_seesSign_13 : decode cX6_seesSign 13 = .ok (.ireturn, 1) := by decide +kernel
set_option maxHeartbeats 4000000 in
set_option maxRecDepth 100000 in
theorem c_seesSign (l : Launch) (D : va_G) (ca : Nat → ClassId) (sz : Nat) (t0 : Nat) (r_bytes : Nat) (r_length : Int32) (r_faultKind : Int32) (r_faultAt : Int32) (r_letters : Int64) (r_mostBytes : Int32) (r_behind : Int32) (r_at : Int32) (r_number : Int32)  : oMet l yX6_seesSign wsX6_seesSign ({ frames := 0, cells := 0, slots := 0, locals := 0 } : Room) [.ref t0, .int 40] D ca sz [(t0, .inr (6, [.ref r_bytes, .int r_length, .int r_faultKind, .int r_faultAt, .long r_letters, .int r_mostBytes, .int r_behind, .int r_at, .int 1, .int r_number]))] (oQi D (fun (r : Int32) (u : Unit) => r = 0) (fun (u : Unit) => [(t0, .inr (6, [.ref r_bytes, .int r_length, .int r_faultKind, .int r_faultAt, .long r_letters, .int r_mostBytes, .int r_behind, .int r_at, .int 1, .int r_number]))])) 0 0 := by
  refine oM (cc := cX6_seesSign) (maxL := 2) (ret := (some .boolean)) (by decide) rfl (Nat.le_of_ble_eq_true rfl) [(0, .ref t0), (1, .int 40)] rfl ?_
  intro p e s m below meth c A H locs ls hx hb hr hml hts hown hlocks hin hK hP hD hA hS hl
  have hown : s.vm.findClass RX6 = some m.cls := hown
  have k1 := hts (.fieldLink RX6 51 "LidCourt$Reader" "kind" "I") (by decide +kernel)
  have k2 : ∀ w ∈ wsX60, w ∈ wsX6_seesSign := fun _ h => List.mem_cons_of_mem _ (List.mem_append_right _ h)
  refine lv_aload_n hx hb dX6_seesSign_0 rfl (lv_at hl 0 rfl) ?_
  refine va_get (D := D) (ci := 6) (v := .int 1) (C := RX6) (T := TX6) (N := 10) hx hb hts k2 hown hK.1 hP 0 rfl rfl 8 (by decide) k1 (fun _ h9 => h9) rfl dX6_seesSign_1 ?_
  refine lv_iload_n hx hb dX6_seesSign_4 rfl (lv_at hl 1 rfl) ?_
  refine lv_icmp_ne (tgt := 12) hx hb dX6_seesSign_5 (by decide) (fun _ => ?_) (fun c => absurd c (by decide))
  refine lv_iconst (v := 0) hx hb dX6_seesSign_12 (by decide) ?_
  exact oE_i hx hb hr (by decide) hlocks hP hD hS () [0] rfl (by decide) rfl (Nat.le_of_ble_eq_true rfl) (Nat.le_of_ble_eq_true rfl) dX6_seesSign_13
theorem dX6_takeIf_0 : decode cX6_takeIf 0 = .ok (.aload_n 0, 1) := by decide +kernel
theorem dX6_takeIf_1 : decode cX6_takeIf 1 = .ok (.aload_n 1, 1) := by decide +kernel
theorem dX6_takeIf_2 : decode cX6_takeIf 2 = .ok (.invokevirtual 73, 3) := by decide +kernel
theorem dX6_takeIf_5 : decode cX6_takeIf 5 = .ok (.istore_n 2, 1) := by decide +kernel
theorem dX6_takeIf_6 : decode cX6_takeIf 6 = .ok (.iload_n 2, 1) := by decide +kernel
theorem dX6_takeIf_7 : decode cX6_takeIf 7 = .ok (.ifCond .eq 7, 3) := by decide +kernel
theorem dX6_takeIf_14 : decode cX6_takeIf 14 = .ok (.iload_n 2, 1) := by decide +kernel
theorem dX6_takeIf_15 : decode cX6_takeIf 15 = .ok (.ireturn, 1) := by decide +kernel
set_option maxRecDepth 20000 in
theorem ggX6_takeIf_X6_sees : GoodIn wsX6_takeIf wsX6_sees := goodIn_r _ [5, 6, 7, 8, 36, 37, 38, 39, 40, 41, 42, 43, 44, 45] rfl (by decide +kernel)
set_option maxRecDepth 20000 in
theorem gX6_takeIf_X6_sees : GoodIn wsX6_takeIf (wsV RX6 73 RX6 yX6_sees wsX6_sees) := goodIn_app (goodIn_of _ (by decide +kernel)) ggX6_takeIf_X6_sees
set_option maxHeartbeats 4000000 in
set_option maxRecDepth 100000 in
theorem c_takeIf (l : Launch) (D : va_G) (ca : Nat → ClassId) (sz : Nat) (t0 : Nat) (wd : Nat) (r_bytes : Nat) (r_length : Int32) (r_faultKind : Int32) (r_faultAt : Int32) (r_letters : Int64) (r_mostBytes : Int32) (r_behind : Int32) (r_at : Int32) (r_number : Int32)  : oMet l yX6_takeIf wsX6_takeIf ({ frames := 1, cells := 0, slots := 0, locals := 21 } : Room) [.ref t0, .ref wd] D ca sz [(t0, .inr (6, [.ref r_bytes, .int r_length, .int r_faultKind, .int r_faultAt, .long r_letters, .int r_mostBytes, .int r_behind, .int r_at, .int 0, .int r_number]))] (oQi D (fun (r : Int32) (u : Unit) => r = 0) (fun (u : Unit) => [(t0, .inr (6, [.ref r_bytes, .int r_length, .int r_faultKind, .int r_faultAt, .long r_letters, .int r_mostBytes, .int r_behind, .int r_at, .int 0, .int r_number]))])) 0 0 := by
  refine oM (cc := cX6_takeIf) (maxL := 3) (ret := (some .boolean)) (by decide) rfl (Nat.le_of_ble_eq_true rfl) [(0, .ref t0), (1, .ref wd)] rfl ?_
  intro p e s m below meth c A H locs ls hx hb hr hml hts hown hlocks hin hK hP hD hA hS hl
  have hown : s.vm.findClass RX6 = some m.cls := hown
  refine lv_aload_n hx hb dX6_takeIf_0 rfl (lv_at hl 0 rfl) ?_
  refine lv_aload_n hx hb dX6_takeIf_1 rfl (lv_at hl 1 rfl) ?_
  refine oC_i (Wc := [(t0, .inr (6, [.ref r_bytes, .int r_length, .int r_faultKind, .int r_faultAt, .long r_letters, .int r_mostBytes, .int r_behind, .int r_at, .int 0, .int r_number]))]) (Wr := []) (va_runV (As := [.ref wd]) (rest := []) ⟨hx, hb, hml, hown, hts⟩ (c_sees_0 l D ca H.size t0 wd r_bytes r_length r_faultKind r_faultAt r_letters r_mostBytes r_behind r_at r_number) (cwV 1 hts gX6_takeIf_X6_sees rfl rfl rfl (by decide +kernel) ⟨Nat.le_of_ble_eq_true rfl, Nat.le_of_ble_eq_true rfl⟩) (oPV (C := RX6) hK hP hD [0] rfl (by decide) 0 rfl (ci := 6) rfl rfl) rfl rfl hl.1 rfl (lv_room (Nat.le_of_ble_eq_true rfl)) dX6_takeIf_2 ⟨Nat.le_of_ble_eq_true rfl, Nat.le_of_ble_eq_true rfl⟩) hP hD hS hA [0] [] rfl rfl (by decide) (by decide) (fun r_1 u H locs w_2 hP hD hS => ?_)
  obtain ⟨⟩ := u
  try dsimp only at w_2
  subst w_2
  have hP : va_P D vwCl [(t0, .inr (6, [.ref r_bytes, .int r_length, .int r_faultKind, .int r_faultAt, .long r_letters, .int r_mostBytes, .int r_behind, .int r_at, .int 0, .int r_number]))] H := hP
  have hD : va_D A [(t0, .inr (6, [.ref r_bytes, .int r_length, .int r_faultKind, .int r_faultAt, .long r_letters, .int r_mostBytes, .int r_behind, .int r_at, .int 0, .int r_number]))] := hD
  refine lv_istore_n (lv' := [(2, .int 0), (0, .ref t0), (1, .ref wd)]) hx hb dX6_takeIf_5 rfl hl (by decide) rfl (fun ls hl => ?_)
  refine lv_iload_n hx hb dX6_takeIf_6 rfl (lv_at hl 0 rfl) ?_
  refine lv_if_eq (tgt := 14) hx hb dX6_takeIf_7 (by decide) (fun _ => ?_) (fun c => absurd (by decide) c)
  refine lv_iload_n hx hb dX6_takeIf_14 rfl (lv_at hl 0 rfl) ?_
  exact oE_i hx hb hr (by decide) hlocks hP hD hS () [0] rfl (by decide) rfl (Nat.le_of_ble_eq_true rfl) (Nat.le_of_ble_eq_true rfl) dX6_takeIf_15
theorem dX6_fail_0 : decode cX6_fail 0 = .ok (.aload_n 0, 1) := by decide +kernel
theorem dX6_fail_1 : decode cX6_fail 1 = .ok (.invokevirtual 34, 3) := by decide +kernel
theorem dX6_fail_4 : decode cX6_fail 4 = .ok (.ifCond .ne 26, 3) := by decide +kernel
theorem dX6_fail_7 : decode cX6_fail 7 = .ok (.aload_n 0, 1) := by decide +kernel
theorem dX6_fail_8 : decode cX6_fail 8 = .ok (.iload_n 1, 1) := by decide +kernel
theorem dX6_fail_9 : decode cX6_fail 9 = .ok (.putfield 25, 3) := by decide +kernel
theorem dX6_fail_12 : decode cX6_fail 12 = .ok (.aload_n 0, 1) := by decide +kernel
theorem dX6_fail_13 : decode cX6_fail 13 = .ok (.aload_n 0, 1) := by decide +kernel
theorem dX6_fail_14 : decode cX6_fail 14 = .ok (.getfield 48, 3) := by decide +kernel
theorem dX6_fail_17 : decode cX6_fail 17 = .ok (.putfield 28, 3) := by decide +kernel
theorem dX6_fail_20 : decode cX6_fail 20 = .ok (.aload_n 0, 1) := by decide +kernel
theorem dX6_fail_21 : decode cX6_fail 21 = .ok (.iconst 0, 1) := by decide +kernel
theorem dX6_fail_22 : decode cX6_fail 22 = .ok (.putfield 51, 3) := by decide +kernel
theorem dX6_fail_25 : decode cX6_fail 25 = .ok (.aload_n 0, 1) := by decide +kernel
theorem dX6_fail_26 : decode cX6_fail 26 = .ok (.lconst 0, 1) := by decide +kernel
theorem dX6_fail_27 : decode cX6_fail 27 = .ok (.putfield 44, 3) := by decide +kernel
theorem dX6_fail_30 : decode cX6_fail 30 = .ok (.return_, 1) := by decide +kernel
set_option maxRecDepth 20000 in
theorem ggX6_fail_X6_isBroken : GoodIn wsX6_fail wsX6_isBroken := goodIn_r _ [10, 1, 11, 12, 13, 14, 15, 16, 17, 18, 19, 20] rfl (by decide +kernel)
set_option maxRecDepth 20000 in
theorem gX6_fail_X6_isBroken : GoodIn wsX6_fail (wsV RX6 34 RX6 yX6_isBroken wsX6_isBroken) := goodIn_app (goodIn_of _ (by decide +kernel)) ggX6_fail_X6_isBroken
set_option maxHeartbeats 4000000 in
set_option maxRecDepth 100000 in
theorem c_fail1 (l : Launch) (D : va_G) (ca : Nat → ClassId) (sz : Nat) (t0 : Nat) (r_bytes : Nat) (r_length : Int32) (r_faultAt : Int32) (r_letters : Int64) (r_mostBytes : Int32) (r_behind : Int32) (r_at : Int32) (r_kind : Int32) (r_number : Int32)  : oMet l yX6_fail wsX6_fail ({ frames := 1, cells := 0, slots := 0, locals := 20 } : Room) [.ref t0, .int 1] D ca sz [(t0, .inr (6, [.ref r_bytes, .int r_length, .int 0, .int r_faultAt, .long r_letters, .int r_mostBytes, .int r_behind, .int r_at, .int r_kind, .int r_number]))] (oQv D (fun (u : Unit) => True) (fun (u : Unit) => [(t0, .inr (6, [.ref r_bytes, .int r_length, .int 1, .int r_at, .long 0, .int r_mostBytes, .int r_behind, .int r_at, .int 0, .int r_number]))])) 0 0 := by
  refine oM (cc := cX6_fail) (maxL := 2) (ret := none) (by decide) rfl (Nat.le_of_ble_eq_true rfl) [(0, .ref t0), (1, .int 1)] rfl ?_
  intro p e s m below meth c A H locs ls hx hb hr hml hts hown hlocks hin hK hP hD hA hS hl
  have hown : s.vm.findClass RX6 = some m.cls := hown
  have k1 := hts (.fieldLink RX6 25 "LidCourt$Reader" "faultKind" "I") (by decide +kernel)
  have k2 : ∀ w ∈ wsX60, w ∈ wsX6_fail := fun _ h => List.mem_cons_of_mem _ (List.mem_append_right _ h)
  have k3 := hts (.fieldLink RX6 48 "LidCourt$Reader" "at" "I") (by decide +kernel)
  have k4 := hts (.fieldLink RX6 28 "LidCourt$Reader" "faultAt" "I") (by decide +kernel)
  have k5 := hts (.fieldLink RX6 51 "LidCourt$Reader" "kind" "I") (by decide +kernel)
  have k6 := hts (.fieldLink RX6 44 "LidCourt$Reader" "letters" "J") (by decide +kernel)
  refine lv_aload_n hx hb dX6_fail_0 rfl (lv_at hl 0 rfl) ?_
  refine oC_i (Wc := [(t0, .inr (6, [.ref r_bytes, .int r_length, .int 0, .int r_faultAt, .long r_letters, .int r_mostBytes, .int r_behind, .int r_at, .int r_kind, .int r_number]))]) (Wr := []) (va_runV (As := []) (rest := []) ⟨hx, hb, hml, hown, hts⟩ (c_isBroken l D ca H.size t0 r_bytes r_length r_faultAt r_letters r_mostBytes r_behind r_at r_kind r_number) (cwV 0 hts gX6_fail_X6_isBroken rfl rfl rfl (by decide +kernel) ⟨Nat.le_of_ble_eq_true rfl, Nat.le_of_ble_eq_true rfl⟩) (oPV (C := RX6) hK hP hD [0] rfl (by decide) 0 rfl (ci := 6) rfl rfl) rfl rfl hl.1 rfl (lv_room (Nat.le_of_ble_eq_true rfl)) dX6_fail_1 ⟨Nat.le_of_ble_eq_true rfl, Nat.le_of_ble_eq_true rfl⟩) hP hD hS hA [0] [] rfl rfl (by decide) (by decide) (fun r_1 u H locs w_2 hP hD hS => ?_)
  obtain ⟨⟩ := u
  try dsimp only at w_2
  subst w_2
  have hP : va_P D vwCl [(t0, .inr (6, [.ref r_bytes, .int r_length, .int 0, .int r_faultAt, .long r_letters, .int r_mostBytes, .int r_behind, .int r_at, .int r_kind, .int r_number]))] H := hP
  have hD : va_D A [(t0, .inr (6, [.ref r_bytes, .int r_length, .int 0, .int r_faultAt, .long r_letters, .int r_mostBytes, .int r_behind, .int r_at, .int r_kind, .int r_number]))] := hD
  refine lv_if_ne (tgt := 30) hx hb dX6_fail_4 (by decide) (fun c => absurd (by decide) c) (fun _ => ?_)
  refine lv_aload_n hx hb dX6_fail_7 rfl (lv_at hl 0 rfl) ?_
  refine lv_iload_n hx hb dX6_fail_8 rfl (lv_at hl 1 rfl) ?_
  refine va_put (D := D) (ci := 6) (v := .int 1) (ty := .int) (C := RX6) (T := TX6) (N := 10) hx hb hts k2 tyX6 tyX6_ok nmX6 hown hK.1 hP hD hS 0 rfl rfl 2 (by decide) k1 (fun _ h9 => h9) rfl (by decide +kernel) rfl rfl (Nat.le_of_ble_eq_true rfl) dX6_fail_9 (fun H locs hP hD hS => ?_)
  have hP : va_P D vwCl [(t0, .inr (6, [.ref r_bytes, .int r_length, .int 1, .int r_faultAt, .long r_letters, .int r_mostBytes, .int r_behind, .int r_at, .int r_kind, .int r_number]))] H := hP
  have hD : va_D A [(t0, .inr (6, [.ref r_bytes, .int r_length, .int 1, .int r_faultAt, .long r_letters, .int r_mostBytes, .int r_behind, .int r_at, .int r_kind, .int r_number]))] := hD
  refine lv_aload_n hx hb dX6_fail_12 rfl (lv_at hl 0 rfl) ?_
  refine lv_aload_n hx hb dX6_fail_13 rfl (lv_at hl 0 rfl) ?_
  refine va_get (D := D) (ci := 6) (v := .int r_at) (C := RX6) (T := TX6) (N := 10) hx hb hts k2 hown hK.1 hP 0 rfl rfl 7 (by decide) k3 (fun _ h9 => h9) rfl dX6_fail_14 ?_
  refine va_put (D := D) (ci := 6) (v := .int r_at) (ty := .int) (C := RX6) (T := TX6) (N := 10) hx hb hts k2 tyX6 tyX6_ok nmX6 hown hK.1 hP hD hS 0 rfl rfl 3 (by decide) k4 (fun _ h9 => h9) rfl (by decide +kernel) rfl rfl (Nat.le_of_ble_eq_true rfl) dX6_fail_17 (fun H locs hP hD hS => ?_)
  have hP : va_P D vwCl [(t0, .inr (6, [.ref r_bytes, .int r_length, .int 1, .int r_at, .long r_letters, .int r_mostBytes, .int r_behind, .int r_at, .int r_kind, .int r_number]))] H := hP
  have hD : va_D A [(t0, .inr (6, [.ref r_bytes, .int r_length, .int 1, .int r_at, .long r_letters, .int r_mostBytes, .int r_behind, .int r_at, .int r_kind, .int r_number]))] := hD
  refine lv_aload_n hx hb dX6_fail_20 rfl (lv_at hl 0 rfl) ?_
  refine lv_iconst (v := 0) hx hb dX6_fail_21 (by decide) ?_
  refine va_put (D := D) (ci := 6) (v := .int 0) (ty := .int) (C := RX6) (T := TX6) (N := 10) hx hb hts k2 tyX6 tyX6_ok nmX6 hown hK.1 hP hD hS 0 rfl rfl 8 (by decide) k5 (fun _ h9 => h9) rfl (by decide +kernel) rfl rfl (Nat.le_of_ble_eq_true rfl) dX6_fail_22 (fun H locs hP hD hS => ?_)
  have hP : va_P D vwCl [(t0, .inr (6, [.ref r_bytes, .int r_length, .int 1, .int r_at, .long r_letters, .int r_mostBytes, .int r_behind, .int r_at, .int 0, .int r_number]))] H := hP
  have hD : va_D A [(t0, .inr (6, [.ref r_bytes, .int r_length, .int 1, .int r_at, .long r_letters, .int r_mostBytes, .int r_behind, .int r_at, .int 0, .int r_number]))] := hD
  refine lv_aload_n hx hb dX6_fail_25 rfl (lv_at hl 0 rfl) ?_
  refine lv_lconst (v := 0) hx hb dX6_fail_26 (by decide) ?_
  refine va_put (D := D) (ci := 6) (v := .long 0) (ty := .long) (C := RX6) (T := TX6) (N := 10) hx hb hts k2 tyX6 tyX6_ok nmX6 hown hK.1 hP hD hS 0 rfl rfl 4 (by decide) k6 (fun _ h9 => h9) rfl (by decide +kernel) rfl rfl (Nat.le_of_ble_eq_true rfl) dX6_fail_27 (fun H locs hP hD hS => ?_)
  have hP : va_P D vwCl [(t0, .inr (6, [.ref r_bytes, .int r_length, .int 1, .int r_at, .long 0, .int r_mostBytes, .int r_behind, .int r_at, .int 0, .int r_number]))] H := hP
  have hD : va_D A [(t0, .inr (6, [.ref r_bytes, .int r_length, .int 1, .int r_at, .long 0, .int r_mostBytes, .int r_behind, .int r_at, .int 0, .int r_number]))] := hD
  exact oE_v hx hb hr hlocks hP hD hS () [0] rfl (by decide) trivial (Nat.le_of_ble_eq_true rfl) (Nat.le_of_ble_eq_true rfl) dX6_fail_30
theorem dX6_isBroken_7 : decode cX6_isBroken 7 = .ok (.iconst 1, 1) := by decide +kernel
theorem dX6_isBroken_8 : decode cX6_isBroken 8 = .ok (.goto 4, 3) := by decide +kernel
set_option maxHeartbeats 4000000 in
set_option maxRecDepth 100000 in
theorem c_isBroken1 (l : Launch) (D : va_G) (ca : Nat → ClassId) (sz : Nat) (t0 : Nat) (r_bytes : Nat) (r_length : Int32) (r_faultAt : Int32) (r_letters : Int64) (r_mostBytes : Int32) (r_behind : Int32) (r_at : Int32) (r_kind : Int32) (r_number : Int32)  : oMet l yX6_isBroken wsX6_isBroken ({ frames := 0, cells := 0, slots := 0, locals := 0 } : Room) [.ref t0] D ca sz [(t0, .inr (6, [.ref r_bytes, .int r_length, .int 1, .int r_faultAt, .long r_letters, .int r_mostBytes, .int r_behind, .int r_at, .int r_kind, .int r_number]))] (oQi D (fun (r : Int32) (u : Unit) => r = 1) (fun (u : Unit) => [(t0, .inr (6, [.ref r_bytes, .int r_length, .int 1, .int r_faultAt, .long r_letters, .int r_mostBytes, .int r_behind, .int r_at, .int r_kind, .int r_number]))])) 0 0 := by
  refine oM (cc := cX6_isBroken) (maxL := 1) (ret := (some .boolean)) (by decide) rfl (Nat.le_of_ble_eq_true rfl) [(0, .ref t0)] rfl ?_
  intro p e s m below meth c A H locs ls hx hb hr hml hts hown hlocks hin hK hP hD hA hS hl
  have hown : s.vm.findClass RX6 = some m.cls := hown
  have k1 := hts (.fieldLink RX6 25 "LidCourt$Reader" "faultKind" "I") (by decide +kernel)
  have k2 : ∀ w ∈ wsX60, w ∈ wsX6_isBroken := fun _ h => List.mem_cons_of_mem _ (List.mem_append_right _ h)
  refine lv_aload_n hx hb dX6_isBroken_0 rfl (lv_at hl 0 rfl) ?_
  refine va_get (D := D) (ci := 6) (v := .int 1) (C := RX6) (T := TX6) (N := 10) hx hb hts k2 hown hK.1 hP 0 rfl rfl 2 (by decide) k1 (fun _ h9 => h9) rfl dX6_isBroken_1 ?_
  refine lv_if_eq (tgt := 11) hx hb dX6_isBroken_4 (by decide) (fun c => absurd c (by decide)) (fun _ => ?_)
  refine lv_iconst (v := 1) hx hb dX6_isBroken_7 (by decide) ?_
  refine lv_goto (tgt := 12) hx hb dX6_isBroken_8 (by decide) ?_
  exact oE_i hx hb hr (by decide) hlocks hP hD hS () [0] rfl (by decide) rfl (Nat.le_of_ble_eq_true rfl) (Nat.le_of_ble_eq_true rfl) dX6_isBroken_12
set_option maxHeartbeats 4000000 in
set_option maxRecDepth 100000 in
theorem c_goesOn1 (l : Launch) (D : va_G) (ca : Nat → ClassId) (sz : Nat) (t0 : Nat) (r_bytes : Nat) (r_length : Int32) (r_faultAt : Int32) (r_letters : Int64) (r_mostBytes : Int32) (r_behind : Int32) (r_at : Int32) (r_kind : Int32) (r_number : Int32)  : oMet l yX6_goesOn wsX6_goesOn ({ frames := 1, cells := 0, slots := 0, locals := 20 } : Room) [.ref t0] D ca sz [(t0, .inr (6, [.ref r_bytes, .int r_length, .int 1, .int r_faultAt, .long r_letters, .int r_mostBytes, .int r_behind, .int r_at, .int r_kind, .int r_number]))] (oQi D (fun (r : Int32) (u : Unit) => r = 0) (fun (u : Unit) => [(t0, .inr (6, [.ref r_bytes, .int r_length, .int 1, .int r_faultAt, .long r_letters, .int r_mostBytes, .int r_behind, .int r_at, .int r_kind, .int r_number]))])) 0 0 := by
  refine oM (cc := cX6_goesOn) (maxL := 1) (ret := (some .boolean)) (by decide) rfl (Nat.le_of_ble_eq_true rfl) [(0, .ref t0)] rfl ?_
  intro p e s m below meth c A H locs ls hx hb hr hml hts hown hlocks hin hK hP hD hA hS hl
  have hown : s.vm.findClass RX6 = some m.cls := hown
  refine lv_aload_n hx hb dX6_goesOn_0 rfl (lv_at hl 0 rfl) ?_
  refine oC_i (Wc := [(t0, .inr (6, [.ref r_bytes, .int r_length, .int 1, .int r_faultAt, .long r_letters, .int r_mostBytes, .int r_behind, .int r_at, .int r_kind, .int r_number]))]) (Wr := []) (va_runV (As := []) (rest := []) ⟨hx, hb, hml, hown, hts⟩ (c_isBroken1 l D ca H.size t0 r_bytes r_length r_faultAt r_letters r_mostBytes r_behind r_at r_kind r_number) (cwV 0 hts gX6_goesOn_X6_isBroken rfl rfl rfl (by decide +kernel) ⟨Nat.le_of_ble_eq_true rfl, Nat.le_of_ble_eq_true rfl⟩) (oPV (C := RX6) hK hP hD [0] rfl (by decide) 0 rfl (ci := 6) rfl rfl) rfl rfl hl.1 rfl (lv_room (Nat.le_of_ble_eq_true rfl)) dX6_goesOn_1 ⟨Nat.le_of_ble_eq_true rfl, Nat.le_of_ble_eq_true rfl⟩) hP hD hS hA [0] [] rfl rfl (by decide) (by decide) (fun r_1 u H locs w_2 hP hD hS => ?_)
  obtain ⟨⟩ := u
  try dsimp only at w_2
  subst w_2
  have hP : va_P D vwCl [(t0, .inr (6, [.ref r_bytes, .int r_length, .int 1, .int r_faultAt, .long r_letters, .int r_mostBytes, .int r_behind, .int r_at, .int r_kind, .int r_number]))] H := hP
  have hD : va_D A [(t0, .inr (6, [.ref r_bytes, .int r_length, .int 1, .int r_faultAt, .long r_letters, .int r_mostBytes, .int r_behind, .int r_at, .int r_kind, .int r_number]))] := hD
  refine lv_if_ne (tgt := 19) hx hb dX6_goesOn_4 (by decide) (fun _ => ?_) (fun c => absurd c (by decide))
  refine lv_iconst (v := 0) hx hb dX6_goesOn_19 (by decide) ?_
  exact oE_i hx hb hr (by decide) hlocks hP hD hS () [0] rfl (by decide) rfl (Nat.le_of_ble_eq_true rfl) (Nat.le_of_ble_eq_true rfl) dX6_goesOn_20
theorem dX7_empty_0 : decode cX7_empty 0 = .ok (.aload_n 0, 1) := by decide +kernel
theorem dX7_empty_1 : decode cX7_empty 1 = .ok (.iconst 0, 1) := by decide +kernel
theorem dX7_empty_2 : decode cX7_empty 2 = .ok (.putfield 27, 3) := by decide +kernel
theorem dX7_empty_5 : decode cX7_empty 5 = .ok (.aload_n 0, 1) := by decide +kernel
theorem dX7_empty_6 : decode cX7_empty 6 = .ok (.iconst 0, 1) := by decide +kernel
theorem dX7_empty_7 : decode cX7_empty 7 = .ok (.putfield 31, 3) := by decide +kernel
theorem dX7_empty_10 : decode cX7_empty 10 = .ok (.return_, 1) := by decide +kernel
set_option maxHeartbeats 4000000 in
set_option maxRecDepth 100000 in
theorem c_X7_empty (l : Launch) (D : va_G) (ca : Nat → ClassId) (sz : Nat) (ed0 : Nat) (y_present : Int32) (y_steps : Int32) (y_word : Nat) (y_first : Nat) (y_second : Nat) (y_sets : Nat)  : oMet l yX7_empty wsX7_empty ({ frames := 0, cells := 0, slots := 0, locals := 0 } : Room) [.ref ed0] D ca sz [(ed0, .inr (7, [.int y_present, .int y_steps, .ref y_word, .ref y_first, .ref y_second, .ref y_sets]))] (oQv D (fun (u : Unit) => True) (fun (u : Unit) => [(ed0, .inr (7, [.int 0, .int 0, .ref y_word, .ref y_first, .ref y_second, .ref y_sets]))])) 0 0 := by
  refine oM (cc := cX7_empty) (maxL := 1) (ret := none) (by decide) rfl (Nat.le_of_ble_eq_true rfl) [(0, .ref ed0)] rfl ?_
  intro p e s m below meth c A H locs ls hx hb hr hml hts hown hlocks hin hK hP hD hA hS hl
  have hown : s.vm.findClass RX7 = some m.cls := hown
  have k1 := hts (.fieldLink RX7 27 "LidCourt$Saying" "present" "Z") (by decide +kernel)
  have k2 : ∀ w ∈ wsX70, w ∈ wsX7_empty := fun _ h => List.mem_cons_of_mem _ (List.mem_append_right _ h)
  have k3 := hts (.fieldLink RX7 31 "LidCourt$Saying" "steps" "I") (by decide +kernel)
  refine lv_aload_n hx hb dX7_empty_0 rfl (lv_at hl 0 rfl) ?_
  refine lv_iconst (v := 0) hx hb dX7_empty_1 (by decide) ?_
  refine va_put (D := D) (ci := 7) (v := .int 0) (ty := .boolean) (C := RX7) (T := TX7) (N := 6) hx hb hts k2 tyX7 tyX7_ok nmX7 hown hK.1 hP hD hS 0 rfl rfl 0 (by decide) k1 (fun _ h9 => h9) rfl (by decide +kernel) (by decide) rfl (Nat.le_of_ble_eq_true rfl) dX7_empty_2 (fun H locs hP hD hS => ?_)
  have hP : va_P D vwCl [(ed0, .inr (7, [.int 0, .int y_steps, .ref y_word, .ref y_first, .ref y_second, .ref y_sets]))] H := hP
  have hD : va_D A [(ed0, .inr (7, [.int 0, .int y_steps, .ref y_word, .ref y_first, .ref y_second, .ref y_sets]))] := hD
  refine lv_aload_n hx hb dX7_empty_5 rfl (lv_at hl 0 rfl) ?_
  refine lv_iconst (v := 0) hx hb dX7_empty_6 (by decide) ?_
  refine va_put (D := D) (ci := 7) (v := .int 0) (ty := .int) (C := RX7) (T := TX7) (N := 6) hx hb hts k2 tyX7 tyX7_ok nmX7 hown hK.1 hP hD hS 0 rfl rfl 1 (by decide) k3 (fun _ h9 => h9) rfl (by decide +kernel) rfl rfl (Nat.le_of_ble_eq_true rfl) dX7_empty_7 (fun H locs hP hD hS => ?_)
  have hP : va_P D vwCl [(ed0, .inr (7, [.int 0, .int 0, .ref y_word, .ref y_first, .ref y_second, .ref y_sets]))] H := hP
  have hD : va_D A [(ed0, .inr (7, [.int 0, .int 0, .ref y_word, .ref y_first, .ref y_second, .ref y_sets]))] := hD
  exact oE_v hx hb hr hlocks hP hD hS () [0] rfl (by decide) trivial (Nat.le_of_ble_eq_true rfl) (Nat.le_of_ble_eq_true rfl) dX7_empty_10
theorem dX8_begin_0 : decode cX8_begin 0 = .ok (.aload_n 0, 1) := by decide +kernel
theorem dX8_begin_1 : decode cX8_begin 1 = .ok (.getfield 12, 3) := by decide +kernel
theorem dX8_begin_4 : decode cX8_begin 4 = .ok (.invokevirtual 22, 3) := by decide +kernel
theorem dX8_begin_7 : decode cX8_begin 7 = .ok (.aload_n 0, 1) := by decide +kernel
theorem dX8_begin_8 : decode cX8_begin 8 = .ok (.iconst 0, 1) := by decide +kernel
theorem dX8_begin_9 : decode cX8_begin 9 = .ok (.putfield 25, 3) := by decide +kernel
theorem dX8_begin_12 : decode cX8_begin 12 = .ok (.aload_n 0, 1) := by decide +kernel
theorem dX8_begin_13 : decode cX8_begin 13 = .ok (.getfield 18, 3) := by decide +kernel
theorem dX8_begin_16 : decode cX8_begin 16 = .ok (.sipush 200, 3) := by decide +kernel
theorem dX8_begin_19 : decode cX8_begin 19 = .ok (.invokevirtual 29, 3) := by decide +kernel
theorem dX8_begin_22 : decode cX8_begin 22 = .ok (.return_, 1) := by decide +kernel
set_option maxRecDepth 20000 in
theorem ggX8_begin_X7_empty : GoodIn wsX8_begin wsX7_empty := goodIn_r _ [8, 9, 10, 49, 50, 51, 52, 53, 54] rfl (by decide +kernel)
set_option maxRecDepth 20000 in
theorem gX8_begin_X7_empty : GoodIn wsX8_begin (wsV RX8 22 RX7 yX7_empty wsX7_empty) := goodIn_app (goodIn_of _ (by decide +kernel)) ggX8_begin_X7_empty
set_option maxRecDepth 20000 in
theorem ggX8_begin_X6_begin : GoodIn wsX8_begin wsX6_begin := goodIn_r _ [15, 16, 17, 18, 19, 20, 21, 22, 14, 23, 24, 25, 26, 27, 28, 29, 30, 31, 32, 33, 34, 35, 36, 37, 38, 39, 40, 41, 42, 43, 44, 45, 55, 56, 57, 58, 59, 60, 61, 62, 63, 64] rfl (by decide +kernel)
set_option maxRecDepth 20000 in
theorem gX8_begin_X6_begin : GoodIn wsX8_begin (wsV RX8 29 RX6 yX6_begin wsX6_begin) := goodIn_app (goodIn_of _ (by decide +kernel)) ggX8_begin_X6_begin
set_option maxHeartbeats 4000000 in
set_option maxRecDepth 100000 in
theorem c_X8_begin (l : Launch) (D : va_G) (ca : Nat → ClassId) (sz : Nat) (e0 : Nat) (ed0 : Nat) (e_ones : Int32) (t0 : Nat) (y_present : Int32) (y_steps : Int32) (y_word : Nat) (y_first : Nat) (y_second : Nat) (y_sets : Nat) (r_bytes : Nat) (r_faultKind : Int32) (r_faultAt : Int32) (r_letters : Int64) (r_mostBytes : Int32) (r_behind : Int32) (r_at : Int32) (r_kind : Int32) (r_number : Int32)  : oMet l yX8_begin wsX8_begin ({ frames := 3, cells := 0, slots := 0, locals := 62 } : Room) [.ref e0] D ca sz [(e0, .inr (8, [.ref ed0, .int e_ones, .ref t0])), (ed0, .inr (7, [.int y_present, .int y_steps, .ref y_word, .ref y_first, .ref y_second, .ref y_sets])), (t0, .inr (6, [.ref r_bytes, .int 0, .int r_faultKind, .int r_faultAt, .long r_letters, .int r_mostBytes, .int r_behind, .int r_at, .int r_kind, .int r_number]))] (oQv D (fun (u : Unit) => True) (fun (u : Unit) => [(e0, .inr (8, [.ref ed0, .int 0, .ref t0])), (ed0, .inr (7, [.int 0, .int 0, .ref y_word, .ref y_first, .ref y_second, .ref y_sets])), (t0, .inr (6, [.ref r_bytes, .int 0, .int 0, .int 0, .long 0, .int 200, .int 0, .int 0, .int 1, .int r_number]))])) 0 0 := by
  refine oM (cc := cX8_begin) (maxL := 1) (ret := none) (by decide) rfl (Nat.le_of_ble_eq_true rfl) [(0, .ref e0)] rfl ?_
  intro p e s m below meth c A H locs ls hx hb hr hml hts hown hlocks hin hK hP hD hA hS hl
  have hown : s.vm.findClass RX8 = some m.cls := hown
  have k1 := hts (.fieldLink RX8 12 "LidCourt$SentenceReader" "draft" "LLidCourt$Saying;") (by decide +kernel)
  have k2 : ∀ w ∈ wsX80, w ∈ wsX8_begin := fun _ h => List.mem_cons_of_mem _ (List.mem_append_left _ (List.mem_append_left _ (List.mem_append_right _ h)))
  have k3 := hts (.fieldLink RX8 25 "LidCourt$SentenceReader" "ones" "I") (by decide +kernel)
  have k4 := hts (.fieldLink RX8 18 "LidCourt$SentenceReader" "reader" "LLidCourt$Reader;") (by decide +kernel)
  refine lv_aload_n hx hb dX8_begin_0 rfl (lv_at hl 0 rfl) ?_
  refine va_get (D := D) (ci := 8) (v := .ref ed0) (C := RX8) (T := TX8) (N := 3) hx hb hts k2 hown hK.1 hP 0 rfl rfl 0 (by decide) k1 (fun _ h9 => h9) rfl dX8_begin_1 ?_
  refine oC_v (Wc := [(ed0, .inr (7, [.int y_present, .int y_steps, .ref y_word, .ref y_first, .ref y_second, .ref y_sets]))]) (Wr := [(e0, .inr (8, [.ref ed0, .int e_ones, .ref t0])), (t0, .inr (6, [.ref r_bytes, .int 0, .int r_faultKind, .int r_faultAt, .long r_letters, .int r_mostBytes, .int r_behind, .int r_at, .int r_kind, .int r_number]))]) (va_runV (As := []) (rest := []) ⟨hx, hb, hml, hown, hts⟩ (c_X7_empty l D ca H.size ed0 y_present y_steps y_word y_first y_second y_sets) (cwV 0 hts gX8_begin_X7_empty rfl rfl rfl (by decide +kernel) ⟨Nat.le_of_ble_eq_true rfl, Nat.le_of_ble_eq_true rfl⟩) (oPV (C := RX7) hK hP hD [1] rfl (by decide) 0 rfl (ci := 7) rfl rfl) rfl rfl hl.1 rfl (lv_room (Nat.le_of_ble_eq_true rfl)) dX8_begin_4 ⟨Nat.le_of_ble_eq_true rfl, Nat.le_of_ble_eq_true rfl⟩) hP hD hS hA [1] [0, 2] rfl rfl (by decide) (by decide) (fun u H locs w_2 hP hD hS => ?_)
  obtain ⟨⟩ := u
  have hP : va_P D vwCl [(e0, .inr (8, [.ref ed0, .int e_ones, .ref t0])), (t0, .inr (6, [.ref r_bytes, .int 0, .int r_faultKind, .int r_faultAt, .long r_letters, .int r_mostBytes, .int r_behind, .int r_at, .int r_kind, .int r_number])), (ed0, .inr (7, [.int 0, .int 0, .ref y_word, .ref y_first, .ref y_second, .ref y_sets]))] H := hP
  have hD : va_D A [(e0, .inr (8, [.ref ed0, .int e_ones, .ref t0])), (t0, .inr (6, [.ref r_bytes, .int 0, .int r_faultKind, .int r_faultAt, .long r_letters, .int r_mostBytes, .int r_behind, .int r_at, .int r_kind, .int r_number])), (ed0, .inr (7, [.int 0, .int 0, .ref y_word, .ref y_first, .ref y_second, .ref y_sets]))] := hD
  refine lv_aload_n hx hb dX8_begin_7 rfl (lv_at hl 0 rfl) ?_
  refine lv_iconst (v := 0) hx hb dX8_begin_8 (by decide) ?_
  refine va_put (D := D) (ci := 8) (v := .int 0) (ty := .int) (C := RX8) (T := TX8) (N := 3) hx hb hts k2 tyX8 tyX8_ok nmX8 hown hK.1 hP hD hS 0 rfl rfl 1 (by decide) k3 (fun _ h9 => h9) rfl (by decide +kernel) rfl rfl (Nat.le_of_ble_eq_true rfl) dX8_begin_9 (fun H locs hP hD hS => ?_)
  have hP : va_P D vwCl [(e0, .inr (8, [.ref ed0, .int 0, .ref t0])), (t0, .inr (6, [.ref r_bytes, .int 0, .int r_faultKind, .int r_faultAt, .long r_letters, .int r_mostBytes, .int r_behind, .int r_at, .int r_kind, .int r_number])), (ed0, .inr (7, [.int 0, .int 0, .ref y_word, .ref y_first, .ref y_second, .ref y_sets]))] H := hP
  have hD : va_D A [(e0, .inr (8, [.ref ed0, .int 0, .ref t0])), (t0, .inr (6, [.ref r_bytes, .int 0, .int r_faultKind, .int r_faultAt, .long r_letters, .int r_mostBytes, .int r_behind, .int r_at, .int r_kind, .int r_number])), (ed0, .inr (7, [.int 0, .int 0, .ref y_word, .ref y_first, .ref y_second, .ref y_sets]))] := hD
  refine lv_aload_n hx hb dX8_begin_12 rfl (lv_at hl 0 rfl) ?_
  refine va_get (D := D) (ci := 8) (v := .ref t0) (C := RX8) (T := TX8) (N := 3) hx hb hts k2 hown hK.1 hP 0 rfl rfl 2 (by decide) k4 (fun _ h9 => h9) rfl dX8_begin_13 ?_
  refine lv_sipush (v := 200) hx hb dX8_begin_16 (by decide) ?_
  refine oC_v (Wc := [(t0, .inr (6, [.ref r_bytes, .int 0, .int r_faultKind, .int r_faultAt, .long r_letters, .int r_mostBytes, .int r_behind, .int r_at, .int r_kind, .int r_number]))]) (Wr := [(e0, .inr (8, [.ref ed0, .int 0, .ref t0])), (ed0, .inr (7, [.int 0, .int 0, .ref y_word, .ref y_first, .ref y_second, .ref y_sets]))]) (va_runV (As := [.int 200]) (rest := []) ⟨hx, hb, hml, hown, hts⟩ (c_begin_200 l D ca H.size t0 r_bytes r_faultKind r_faultAt r_letters r_mostBytes r_behind r_at r_kind r_number) (cwV 1 hts gX8_begin_X6_begin rfl rfl rfl (by decide +kernel) ⟨Nat.le_of_ble_eq_true rfl, Nat.le_of_ble_eq_true rfl⟩) (oPV (C := RX6) hK hP hD [1] rfl (by decide) 0 rfl (ci := 6) rfl rfl) rfl rfl hl.1 rfl (lv_room (Nat.le_of_ble_eq_true rfl)) dX8_begin_19 ⟨Nat.le_of_ble_eq_true rfl, Nat.le_of_ble_eq_true rfl⟩) hP hD hS hA [1] [0, 2] rfl rfl (by decide) (by decide) (fun u H locs w_4 hP hD hS => ?_)
  obtain ⟨⟩ := u
  have hP : va_P D vwCl [(e0, .inr (8, [.ref ed0, .int 0, .ref t0])), (ed0, .inr (7, [.int 0, .int 0, .ref y_word, .ref y_first, .ref y_second, .ref y_sets])), (t0, .inr (6, [.ref r_bytes, .int 0, .int 0, .int 0, .long 0, .int 200, .int 0, .int 0, .int 1, .int r_number]))] H := hP
  have hD : va_D A [(e0, .inr (8, [.ref ed0, .int 0, .ref t0])), (ed0, .inr (7, [.int 0, .int 0, .ref y_word, .ref y_first, .ref y_second, .ref y_sets])), (t0, .inr (6, [.ref r_bytes, .int 0, .int 0, .int 0, .long 0, .int 200, .int 0, .int 0, .int 1, .int r_number]))] := hD
  exact oE_v hx hb hr hlocks hP hD hS () [0, 1, 2] rfl (by decide) trivial (Nat.le_of_ble_eq_true rfl) (Nat.le_of_ble_eq_true rfl) dX8_begin_22
theorem dX8_plainWord_0 : decode cX8_plainWord 0 = .ok (.iconst 0, 1) := by decide +kernel
theorem dX8_plainWord_1 : decode cX8_plainWord 1 = .ok (.istore_n 1, 1) := by decide +kernel
theorem dX8_plainWord_2 : decode cX8_plainWord 2 = .ok (.iload_n 1, 1) := by decide +kernel
theorem dX8_plainWord_3 : decode cX8_plainWord 3 = .ok (.getstatic 97, 3) := by decide +kernel
theorem dX8_plainWord_6 : decode cX8_plainWord 6 = .ok (.arraylength, 1) := by decide +kernel
theorem dX8_plainWord_7 : decode cX8_plainWord 7 = .ok (.if_icmp .ge 45, 3) := by decide +kernel
theorem dX8_plainWord_10 : decode cX8_plainWord 10 = .ok (.aload_n 0, 1) := by decide +kernel
theorem dX8_plainWord_11 : decode cX8_plainWord 11 = .ok (.getfield 18, 3) := by decide +kernel
theorem dX8_plainWord_14 : decode cX8_plainWord 14 = .ok (.getstatic 97, 3) := by decide +kernel
theorem dX8_plainWord_17 : decode cX8_plainWord 17 = .ok (.iload_n 1, 1) := by decide +kernel
theorem dX8_plainWord_18 : decode cX8_plainWord 18 = .ok (.aaload, 1) := by decide +kernel
theorem dX8_plainWord_19 : decode cX8_plainWord 19 = .ok (.invokevirtual 77, 3) := by decide +kernel
theorem dX8_plainWord_22 : decode cX8_plainWord 22 = .ok (.ifCond .eq 24, 3) := by decide +kernel
theorem dX8_plainWord_46 : decode cX8_plainWord 46 = .ok (.iinc 1 1, 3) := by decide +kernel
theorem dX8_plainWord_49 : decode cX8_plainWord 49 = .ok (.goto (-47), 3) := by decide +kernel
theorem dX8_plainWord_52 : decode cX8_plainWord 52 = .ok (.aconst_null, 1) := by decide +kernel
theorem dX8_plainWord_53 : decode cX8_plainWord 53 = .ok (.areturn, 1) := by decide +kernel
set_option maxRecDepth 20000 in
theorem ggX8_plainWord_X6_sees : GoodIn wsX8_plainWord wsX6_sees := goodIn_r _ [6, 7, 8, 9, 28, 29, 30, 31, 32, 33, 34, 35, 36, 37] rfl (by decide +kernel)
set_option maxRecDepth 20000 in
theorem gX8_plainWord_X6_sees : GoodIn wsX8_plainWord (wsV RX8 77 RX6 yX6_sees wsX6_sees) := goodIn_app (goodIn_of _ (by decide +kernel)) ggX8_plainWord_X6_sees
set_option maxHeartbeats 4000000 in
set_option maxRecDepth 100000 in
theorem c_plainWord (l : Launch) (D : va_G) (ca : Nat → ClassId) (ad : Nat → Nat) (wt : Nat) (sz : Nat) (e0 : Nat) (ed0 : Nat) (e_ones : Int32) (t0 : Nat) (r_bytes : Nat) (r_length : Int32) (r_faultKind : Int32) (r_faultAt : Int32) (r_letters : Int64) (r_mostBytes : Int32) (r_behind : Int32) (r_at : Int32) (r_number : Int32)  : sMet l yX8_plainWord wsX8_plainWord ({ frames := 1, cells := 0, slots := 0, locals := 21 } : Room) [.ref e0] D ca ad wt sz [(e0, .inr (8, [.ref ed0, .int e_ones, .ref t0])), (t0, .inr (6, [.ref r_bytes, .int r_length, .int r_faultKind, .int r_faultAt, .long r_letters, .int r_mostBytes, .int r_behind, .int r_at, .int 1, .int r_number]))] (oQq D (fun (r : Option Nat) (u : Unit) => r = none) (fun (u : Unit) => [(e0, .inr (8, [.ref ed0, .int e_ones, .ref t0])), (t0, .inr (6, [.ref r_bytes, .int r_length, .int r_faultKind, .int r_faultAt, .long r_letters, .int r_mostBytes, .int r_behind, .int r_at, .int 1, .int r_number]))])) 0 0 := by
  refine sM (cc := cX8_plainWord) (maxL := 2) (ret := (some (.object "LidCourt$Word"))) (by decide) rfl (Nat.le_of_ble_eq_true rfl) [(0, .ref e0)] rfl ?_
  intro p e s m below meth c A H locs ls hx hb hr hml hts hown hlocks hin hK hP hD hA hS hl hZ
  have hown : s.vm.findClass RX8 = some m.cls := hown
  have k1 := hts (.fieldLink RX8 18 "LidCourt$SentenceReader" "reader" "LLidCourt$Reader;") (by decide +kernel)
  have k2 : ∀ w ∈ wsX80, w ∈ wsX8_plainWord := fun _ h => List.mem_cons_of_mem _ (List.mem_append_left _ (List.mem_append_right _ h))
  refine lv_iconst (v := 0) hx hb dX8_plainWord_0 (by decide) ?_
  refine lv_istore_n (lv' := [(1, .int 0), (0, .ref e0)]) hx hb dX8_plainWord_1 rfl hl (by decide) rfl (fun ls hl => ?_)
  have LP_3 : ∀ (n i_1 : Nat) (x_2 : Int32), i_1 ≤ 26 → 26 < i_1 + n → x_2 = nI i_1 → ∀ (H : Heap) (locs : List Loc) (ls : Array Slot), va_P D vwCl [(e0, .inr (8, [.ref ed0, .int e_ones, .ref t0])), (t0, .inr (6, [.ref r_bytes, .int r_length, .int r_faultKind, .int r_faultAt, .long r_letters, .int r_mostBytes, .int r_behind, .int r_at, .int 1, .int r_number]))] H → va_D A [(e0, .inr (8, [.ref ed0, .int e_ones, .ref t0])), (t0, .inr (6, [.ref r_bytes, .int r_length, .int r_faultKind, .int r_faultAt, .long r_letters, .int r_mostBytes, .int r_behind, .int r_at, .int 1, .int r_number]))] → va_S A s.heap H locs → lv_has ls 2 [(0, .ref e0), (1, .int x_2)] → W p l e ({ frames := 1, cells := 0, slots := 0, locals := 21 } : Room) s m ([.ref e0] : List Value).toArray below meth c H locs 0 0 (MQ below ((oQq D (fun (r : Option Nat) (u : Unit) => r = none) (fun (u : Unit) => [(e0, .inr (8, [.ref ed0, .int e_ones, .ref t0])), (t0, .inr (6, [.ref r_bytes, .int r_length, .int r_faultKind, .int r_faultAt, .long r_letters, .int r_mostBytes, .int r_behind, .int r_at, .int 1, .int r_number]))])) A) ([.ref e0] : List Value).toArray s 0 0 A) (F0 m 2 ls []) := by
    intro n
    induction n with
    | zero => intro i_1 x_2  hi_i_1 hf_i_1; exact absurd hf_i_1 (by omega)
    | succ n ih =>
      intro i_1 x_2  hi_i_1 hf_i_1 ex_2  H locs ls hP hD hS hl
      refine lv_iload_n hx hb dX8_plainWord_2 rfl (lv_at hl 1 rfl) ?_
      refine va_getsN (v := .ref wt) hx hb hZ.2.2.1 hS hown (va_Nw.use rfl hK.2.2.1.2) (fun _ h9 => h9) dX8_plainWord_3 ?_
      refine va_tlen hx hb hZ.2.2.2.1 hS (v := 26) (by decide) dX8_plainWord_6 ?_
      refine lv_icmp_ge (tgt := 52) hx hb dX8_plainWord_7 (by decide) (fun c_4 => ?_) (fun c_4 => ?_)
      · skip
        have nc_4 : 26 ≤ i_1 := ole rfl ex_2 (by omega) (by omega) c_4
        refine lv_null hx hb dX8_plainWord_52 ?_
        exact oE_q (r := none) hx hb hr (Or.inl ⟨_, rfl⟩) rfl hlocks hP hD hS () [0, 1] rfl (by decide) rfl (Nat.le_of_ble_eq_true rfl) (Nat.le_of_ble_eq_true rfl) dX8_plainWord_53
      · skip
        have nc_4 : ¬ (26 ≤ i_1) := oleN rfl ex_2 (by omega) (by omega) c_4
        refine lv_aload_n hx hb dX8_plainWord_10 rfl (lv_at hl 0 rfl) ?_
        refine va_get (D := D) (ci := 8) (v := .ref t0) (C := RX8) (T := TX8) (N := 3) hx hb hts k2 hown hK.1 hP 0 rfl rfl 2 (by decide) k1 (fun _ h9 => h9) rfl dX8_plainWord_11 ?_
        refine va_getsN (v := .ref wt) hx hb hZ.2.2.1 hS hown (va_Nw.use rfl hK.2.2.1.2) (fun _ h9 => h9) dX8_plainWord_14 ?_
        refine lv_iload_n hx hb dX8_plainWord_17 rfl (lv_at hl 1 rfl) ?_
        refine vb_tq hx hb hZ.2.2.2.1 hS (oin (k := i_1) (by omega) (by decide) ex_2) (v := .ref (ad i_1)) (oat (fun k => Value.ref (ad k)) i_1 (i := x_2) ex_2 (by omega)) dX8_plainWord_18 ?_
        refine oC_i (Wc := [(t0, .inr (6, [.ref r_bytes, .int r_length, .int r_faultKind, .int r_faultAt, .long r_letters, .int r_mostBytes, .int r_behind, .int r_at, .int 1, .int r_number]))]) (Wr := [(e0, .inr (8, [.ref ed0, .int e_ones, .ref t0]))]) (va_runV (As := [.ref (ad i_1)]) (rest := []) ⟨hx, hb, hml, hown, hts⟩ (c_sees_1 l D ca H.size t0 (ad i_1) r_bytes r_length r_faultKind r_faultAt r_letters r_mostBytes r_behind r_at r_number) (cwV 1 hts gX8_plainWord_X6_sees rfl rfl rfl (by decide +kernel) ⟨Nat.le_of_ble_eq_true rfl, Nat.le_of_ble_eq_true rfl⟩) (oPV (C := RX6) hK hP hD [1] rfl (by decide) 0 rfl (ci := 6) rfl rfl) rfl rfl hl.1 rfl (lv_room (Nat.le_of_ble_eq_true rfl)) dX8_plainWord_19 ⟨Nat.le_of_ble_eq_true rfl, Nat.le_of_ble_eq_true rfl⟩) hP hD hS hA [1] [0] rfl rfl (by decide) (by decide) (fun r_5 u H locs w_6 hP hD hS => ?_)
        obtain ⟨⟩ := u
        try dsimp only at w_6
        subst w_6
        have hP : va_P D vwCl [(e0, .inr (8, [.ref ed0, .int e_ones, .ref t0])), (t0, .inr (6, [.ref r_bytes, .int r_length, .int r_faultKind, .int r_faultAt, .long r_letters, .int r_mostBytes, .int r_behind, .int r_at, .int 1, .int r_number]))] H := hP
        have hD : va_D A [(e0, .inr (8, [.ref ed0, .int e_ones, .ref t0])), (t0, .inr (6, [.ref r_bytes, .int r_length, .int r_faultKind, .int r_faultAt, .long r_letters, .int r_mostBytes, .int r_behind, .int r_at, .int 1, .int r_number]))] := hD
        refine lv_if_eq (tgt := 46) hx hb dX8_plainWord_22 (by decide) (fun _ => ?_) (fun c => absurd (by decide) c)
        obtain ⟨x_7, ex_7⟩ : ∃ y : Int32, y = x_2 + 1 := ⟨_, rfl⟩
        have nx_7 : x_7 = nI (i_1 + 1) := by rw [ex_7, ex_2]; exact nI_add _ 1
        refine lv_iinc (v := x_7) (lv' := [(1, .int x_7), (0, .ref e0)]) hx hb dX8_plainWord_46 hl (k := 1) rfl (by rw [ex_7]; rfl) (by decide) rfl (fun ls hl => ?_)
        refine lv_goto (tgt := 2) hx hb dX8_plainWord_49 (by decide) ?_
        exact ih (i_1 + 1) x_7  (by omega) (by omega) nx_7  H locs ls (oPsub hP [0, 1] rfl) (hD.sub [0, 1] (by decide) rfl) hS (lv_sub hl [1, 0] rfl)
  exact LP_3 (26 + 1) 0 0  (by omega) (by omega) rfl  H locs ls (oPsub hP [0, 1] rfl) (hD.sub [0, 1] (by decide) rfl) hS (lv_sub hl [1, 0] rfl)
theorem dX8_readOne_0 : decode cX8_readOne 0 = .ok (.aload_n 0, 1) := by decide +kernel
theorem dX8_readOne_1 : decode cX8_readOne 1 = .ok (.invokevirtual 70, 3) := by decide +kernel
theorem dX8_readOne_4 : decode cX8_readOne 4 = .ok (.astore_n 3, 1) := by decide +kernel
theorem dX8_readOne_5 : decode cX8_readOne 5 = .ok (.aload_n 3, 1) := by decide +kernel
theorem dX8_readOne_6 : decode cX8_readOne 6 = .ok (.ifnonnull 37, 3) := by decide +kernel
theorem dX8_readOne_9 : decode cX8_readOne 9 = .ok (.aload_n 0, 1) := by decide +kernel
theorem dX8_readOne_10 : decode cX8_readOne 10 = .ok (.getfield 18, 3) := by decide +kernel
theorem dX8_readOne_13 : decode cX8_readOne 13 = .ok (.getstatic 74, 3) := by decide +kernel
theorem dX8_readOne_16 : decode cX8_readOne 16 = .ok (.invokevirtual 77, 3) := by decide +kernel
theorem dX8_readOne_19 : decode cX8_readOne 19 = .ok (.ifCond .ne 24, 3) := by decide +kernel
theorem dX8_readOne_22 : decode cX8_readOne 22 = .ok (.aload_n 0, 1) := by decide +kernel
theorem dX8_readOne_23 : decode cX8_readOne 23 = .ok (.getfield 18, 3) := by decide +kernel
theorem dX8_readOne_26 : decode cX8_readOne 26 = .ok (.bipush 40, 2) := by decide +kernel
theorem dX8_readOne_28 : decode cX8_readOne 28 = .ok (.invokevirtual 80, 3) := by decide +kernel
theorem dX8_readOne_31 : decode cX8_readOne 31 = .ok (.ifCond .ne 12, 3) := by decide +kernel
theorem dX8_readOne_34 : decode cX8_readOne 34 = .ok (.aload_n 0, 1) := by decide +kernel
theorem dX8_readOne_35 : decode cX8_readOne 35 = .ok (.getfield 18, 3) := by decide +kernel
theorem dX8_readOne_38 : decode cX8_readOne 38 = .ok (.iconst 1, 1) := by decide +kernel
theorem dX8_readOne_39 : decode cX8_readOne 39 = .ok (.invokevirtual 39, 3) := by decide +kernel
theorem dX8_readOne_42 : decode cX8_readOne 42 = .ok (.return_, 1) := by decide +kernel
set_option maxRecDepth 20000 in
theorem ggX8_readOne_X8_plainWord : GoodIn wsX8_readOne wsX8_plainWord := goodIn_r _ [9, 1, 10, 11, 12, 13, 14, 15, 16, 17, 18, 19, 8, 20, 21, 22, 23, 24, 25, 26, 27, 28, 29, 30, 31, 139, 140, 141, 142, 143, 144, 145, 146, 147, 148, 149, 150, 151] rfl (by decide +kernel)
set_option maxRecDepth 20000 in
theorem gX8_readOne_X8_plainWord : GoodIn wsX8_readOne (wsV RX8 70 RX8 yX8_plainWord wsX8_plainWord) := goodIn_app (goodIn_of _ (by decide +kernel)) ggX8_readOne_X8_plainWord
set_option maxRecDepth 20000 in
theorem ggX8_readOne_X6_sees : GoodIn wsX8_readOne wsX6_sees := goodIn_r _ [14, 15, 16, 17, 142, 143, 144, 145, 146, 147, 148, 149, 150, 151] rfl (by decide +kernel)
set_option maxRecDepth 20000 in
theorem gX8_readOne_X6_sees : GoodIn wsX8_readOne (wsV RX8 77 RX6 yX6_sees wsX6_sees) := goodIn_app (goodIn_of _ (by decide +kernel)) ggX8_readOne_X6_sees
set_option maxRecDepth 20000 in
theorem ggX8_readOne_X6_seesSign : GoodIn wsX8_readOne wsX6_seesSign := goodIn_r _ [35, 15, 142, 143, 144, 145, 146, 147, 148, 149, 150, 151] rfl (by decide +kernel)
set_option maxRecDepth 20000 in
theorem gX8_readOne_X6_seesSign : GoodIn wsX8_readOne (wsV RX8 80 RX6 yX6_seesSign wsX6_seesSign) := goodIn_app (goodIn_of _ (by decide +kernel)) ggX8_readOne_X6_seesSign
set_option maxRecDepth 20000 in
theorem ggX8_readOne_X6_fail : GoodIn wsX8_readOne wsX6_fail := goodIn_r _ [39, 40, 41, 42, 15, 16, 43, 44, 45, 13, 46, 142, 143, 144, 145, 146, 147, 148, 149, 150, 151] rfl (by decide +kernel)
set_option maxRecDepth 20000 in
theorem gX8_readOne_X6_fail : GoodIn wsX8_readOne (wsV RX8 39 RX6 yX6_fail wsX6_fail) := goodIn_app (goodIn_of _ (by decide +kernel)) ggX8_readOne_X6_fail
set_option maxHeartbeats 4000000 in
set_option maxRecDepth 100000 in
theorem c_readOne (l : Launch) (D : va_G) (ca : Nat → ClassId) (ad : Nat → Nat) (wt : Nat) (sz : Nat) (e0 : Nat) (lw : Nat) (ed0 : Nat) (e_ones : Int32) (t0 : Nat) (r_bytes : Nat) (r_length : Int32) (r_faultAt : Int32) (r_letters : Int64) (r_mostBytes : Int32) (r_behind : Int32) (r_number : Int32)  : sMet l yX8_readOne wsX8_readOne ({ frames := 2, cells := 0, slots := 0, locals := 42 } : Room) [.ref e0, .ref lw, .int 1] D ca ad wt sz [(e0, .inr (8, [.ref ed0, .int e_ones, .ref t0])), (t0, .inr (6, [.ref r_bytes, .int r_length, .int 0, .int r_faultAt, .long r_letters, .int r_mostBytes, .int r_behind, .int 0, .int 1, .int r_number]))] (oQv D (fun (u : Unit) => True) (fun (u : Unit) => [(e0, .inr (8, [.ref ed0, .int e_ones, .ref t0])), (t0, .inr (6, [.ref r_bytes, .int r_length, .int 1, .int 0, .long 0, .int r_mostBytes, .int r_behind, .int 0, .int 0, .int r_number]))])) 0 0 := by
  refine sM (cc := cX8_readOne) (maxL := 5) (ret := none) (by decide) rfl (Nat.le_of_ble_eq_true rfl) [(0, .ref e0), (1, .ref lw), (2, .int 1)] rfl ?_
  intro p e s m below meth c A H locs ls hx hb hr hml hts hown hlocks hin hK hP hD hA hS hl hZ
  have hown : s.vm.findClass RX8 = some m.cls := hown
  have k1 := hts (.fieldLink RX8 18 "LidCourt$SentenceReader" "reader" "LLidCourt$Reader;") (by decide +kernel)
  have k2 : ∀ w ∈ wsX80, w ∈ wsX8_readOne := fun _ h => List.mem_cons_of_mem _ (List.mem_append_left _ (List.mem_append_left _ (List.mem_append_left _ (List.mem_append_right _ h))))
  have k3 := hts (.fieldLink RX8 74 "LidCourt$Word" "NOT" "LLidCourt$Word;") (by decide +kernel)
  refine lv_aload_n hx hb dX8_readOne_0 rfl (lv_at hl 0 rfl) ?_
  refine oC_q (Wc := [(e0, .inr (8, [.ref ed0, .int e_ones, .ref t0])), (t0, .inr (6, [.ref r_bytes, .int r_length, .int 0, .int r_faultAt, .long r_letters, .int r_mostBytes, .int r_behind, .int 0, .int 1, .int r_number]))]) (Wr := []) (va_runV (As := []) (rest := []) ⟨hx, hb, hml, hown, hts⟩ (c_plainWord l D ca ad wt H.size e0 ed0 e_ones t0 r_bytes r_length 0 r_faultAt r_letters r_mostBytes r_behind 0 r_number) (cwV 0 hts gX8_readOne_X8_plainWord rfl rfl rfl (by decide +kernel) ⟨Nat.le_of_ble_eq_true rfl, Nat.le_of_ble_eq_true rfl⟩) (sPV (C := RX8) hZ hS hA hK hP hD [0, 1] rfl (by decide) 0 rfl (ci := 8) rfl rfl) rfl rfl hl.1 rfl (lv_room (Nat.le_of_ble_eq_true rfl)) dX8_readOne_1 ⟨Nat.le_of_ble_eq_true rfl, Nat.le_of_ble_eq_true rfl⟩) hP hD hS hA [0, 1] [] rfl rfl (by decide) (by decide) (fun r_1 u H locs w_2 hP hD hS => ?_)
  obtain ⟨⟩ := u
  try dsimp only at w_2
  subst w_2
  have hP : va_P D vwCl [(e0, .inr (8, [.ref ed0, .int e_ones, .ref t0])), (t0, .inr (6, [.ref r_bytes, .int r_length, .int 0, .int r_faultAt, .long r_letters, .int r_mostBytes, .int r_behind, .int 0, .int 1, .int r_number]))] H := hP
  have hD : va_D A [(e0, .inr (8, [.ref ed0, .int e_ones, .ref t0])), (t0, .inr (6, [.ref r_bytes, .int r_length, .int 0, .int r_faultAt, .long r_letters, .int r_mostBytes, .int r_behind, .int 0, .int 1, .int r_number]))] := hD
  refine lv_astore_nN (lv' := [(3, .null), (0, .ref e0), (1, .ref lw), (2, .int 1)]) hx hb dX8_readOne_4 rfl hl (by decide) rfl (fun ls hl => ?_)
  refine lv_aload_nN hx hb dX8_readOne_5 rfl (lv_at hl 0 rfl) ?_
  refine lv_ifnonnullN hx hb dX8_readOne_6 ?_
  refine lv_aload_n hx hb dX8_readOne_9 rfl (lv_at hl 1 rfl) ?_
  refine va_get (D := D) (ci := 8) (v := .ref t0) (C := RX8) (T := TX8) (N := 3) hx hb hts k2 hown hK.1 hP 0 rfl rfl 2 (by decide) k1 (fun _ h9 => h9) rfl dX8_readOne_10 ?_
  refine va_gets (v := .ref (ad 17)) hx hb hZ.2.2.2.2.1 hS hown k3 (fun _ h9 => h9) dX8_readOne_13 ?_
  refine oC_i (Wc := [(t0, .inr (6, [.ref r_bytes, .int r_length, .int 0, .int r_faultAt, .long r_letters, .int r_mostBytes, .int r_behind, .int 0, .int 1, .int r_number]))]) (Wr := [(e0, .inr (8, [.ref ed0, .int e_ones, .ref t0]))]) (va_runV (As := [.ref (ad 17)]) (rest := []) ⟨hx, hb, hml, hown, hts⟩ (c_sees_1 l D ca H.size t0 (ad 17) r_bytes r_length 0 r_faultAt r_letters r_mostBytes r_behind 0 r_number) (cwV 1 hts gX8_readOne_X6_sees rfl rfl rfl (by decide +kernel) ⟨Nat.le_of_ble_eq_true rfl, Nat.le_of_ble_eq_true rfl⟩) (oPV (C := RX6) hK hP hD [1] rfl (by decide) 0 rfl (ci := 6) rfl rfl) rfl rfl hl.1 rfl (lv_room (Nat.le_of_ble_eq_true rfl)) dX8_readOne_16 ⟨Nat.le_of_ble_eq_true rfl, Nat.le_of_ble_eq_true rfl⟩) hP hD hS hA [1] [0] rfl rfl (by decide) (by decide) (fun r_3 u H locs w_4 hP hD hS => ?_)
  obtain ⟨⟩ := u
  try dsimp only at w_4
  subst w_4
  have hP : va_P D vwCl [(e0, .inr (8, [.ref ed0, .int e_ones, .ref t0])), (t0, .inr (6, [.ref r_bytes, .int r_length, .int 0, .int r_faultAt, .long r_letters, .int r_mostBytes, .int r_behind, .int 0, .int 1, .int r_number]))] H := hP
  have hD : va_D A [(e0, .inr (8, [.ref ed0, .int e_ones, .ref t0])), (t0, .inr (6, [.ref r_bytes, .int r_length, .int 0, .int r_faultAt, .long r_letters, .int r_mostBytes, .int r_behind, .int 0, .int 1, .int r_number]))] := hD
  refine lv_if_ne (tgt := 43) hx hb dX8_readOne_19 (by decide) (fun c => absurd (by decide) c) (fun _ => ?_)
  refine lv_aload_n hx hb dX8_readOne_22 rfl (lv_at hl 1 rfl) ?_
  refine va_get (D := D) (ci := 8) (v := .ref t0) (C := RX8) (T := TX8) (N := 3) hx hb hts k2 hown hK.1 hP 0 rfl rfl 2 (by decide) k1 (fun _ h9 => h9) rfl dX8_readOne_23 ?_
  refine lv_bipush (v := 40) hx hb dX8_readOne_26 (by decide) ?_
  refine oC_i (Wc := [(t0, .inr (6, [.ref r_bytes, .int r_length, .int 0, .int r_faultAt, .long r_letters, .int r_mostBytes, .int r_behind, .int 0, .int 1, .int r_number]))]) (Wr := [(e0, .inr (8, [.ref ed0, .int e_ones, .ref t0]))]) (va_runV (As := [.int 40]) (rest := []) ⟨hx, hb, hml, hown, hts⟩ (c_seesSign l D ca H.size t0 r_bytes r_length 0 r_faultAt r_letters r_mostBytes r_behind 0 r_number) (cwV 1 hts gX8_readOne_X6_seesSign rfl rfl rfl (by decide +kernel) ⟨Nat.le_of_ble_eq_true rfl, Nat.le_of_ble_eq_true rfl⟩) (oPV (C := RX6) hK hP hD [1] rfl (by decide) 0 rfl (ci := 6) rfl rfl) rfl rfl hl.1 rfl (lv_room (Nat.le_of_ble_eq_true rfl)) dX8_readOne_28 ⟨Nat.le_of_ble_eq_true rfl, Nat.le_of_ble_eq_true rfl⟩) hP hD hS hA [1] [0] rfl rfl (by decide) (by decide) (fun r_5 u H locs w_6 hP hD hS => ?_)
  obtain ⟨⟩ := u
  try dsimp only at w_6
  subst w_6
  have hP : va_P D vwCl [(e0, .inr (8, [.ref ed0, .int e_ones, .ref t0])), (t0, .inr (6, [.ref r_bytes, .int r_length, .int 0, .int r_faultAt, .long r_letters, .int r_mostBytes, .int r_behind, .int 0, .int 1, .int r_number]))] H := hP
  have hD : va_D A [(e0, .inr (8, [.ref ed0, .int e_ones, .ref t0])), (t0, .inr (6, [.ref r_bytes, .int r_length, .int 0, .int r_faultAt, .long r_letters, .int r_mostBytes, .int r_behind, .int 0, .int 1, .int r_number]))] := hD
  refine lv_if_ne (tgt := 43) hx hb dX8_readOne_31 (by decide) (fun c => absurd (by decide) c) (fun _ => ?_)
  refine lv_aload_n hx hb dX8_readOne_34 rfl (lv_at hl 1 rfl) ?_
  refine va_get (D := D) (ci := 8) (v := .ref t0) (C := RX8) (T := TX8) (N := 3) hx hb hts k2 hown hK.1 hP 0 rfl rfl 2 (by decide) k1 (fun _ h9 => h9) rfl dX8_readOne_35 ?_
  refine lv_iconst (v := 1) hx hb dX8_readOne_38 (by decide) ?_
  refine oC_v (Wc := [(t0, .inr (6, [.ref r_bytes, .int r_length, .int 0, .int r_faultAt, .long r_letters, .int r_mostBytes, .int r_behind, .int 0, .int 1, .int r_number]))]) (Wr := [(e0, .inr (8, [.ref ed0, .int e_ones, .ref t0]))]) (va_runV (As := [.int 1]) (rest := []) ⟨hx, hb, hml, hown, hts⟩ (c_fail1 l D ca H.size t0 r_bytes r_length r_faultAt r_letters r_mostBytes r_behind 0 1 r_number) (cwV 1 hts gX8_readOne_X6_fail rfl rfl rfl (by decide +kernel) ⟨Nat.le_of_ble_eq_true rfl, Nat.le_of_ble_eq_true rfl⟩) (oPV (C := RX6) hK hP hD [1] rfl (by decide) 0 rfl (ci := 6) rfl rfl) rfl rfl hl.1 rfl (lv_room (Nat.le_of_ble_eq_true rfl)) dX8_readOne_39 ⟨Nat.le_of_ble_eq_true rfl, Nat.le_of_ble_eq_true rfl⟩) hP hD hS hA [1] [0] rfl rfl (by decide) (by decide) (fun u H locs w_8 hP hD hS => ?_)
  obtain ⟨⟩ := u
  have hP : va_P D vwCl [(e0, .inr (8, [.ref ed0, .int e_ones, .ref t0])), (t0, .inr (6, [.ref r_bytes, .int r_length, .int 1, .int 0, .long 0, .int r_mostBytes, .int r_behind, .int 0, .int 0, .int r_number]))] H := hP
  have hD : va_D A [(e0, .inr (8, [.ref ed0, .int e_ones, .ref t0])), (t0, .inr (6, [.ref r_bytes, .int r_length, .int 1, .int 0, .long 0, .int r_mostBytes, .int r_behind, .int 0, .int 0, .int r_number]))] := hD
  exact oE_v hx hb hr hlocks hP hD hS () [0, 1] rfl (by decide) trivial (Nat.le_of_ble_eq_true rfl) (Nat.le_of_ble_eq_true rfl) dX8_readOne_42
theorem dX8_readAll_0 : decode cX8_readAll 0 = .ok (.aload_n 0, 1) := by decide +kernel
theorem dX8_readAll_1 : decode cX8_readAll 1 = .ok (.aload_n 1, 1) := by decide +kernel
theorem dX8_readAll_2 : decode cX8_readAll 2 = .ok (.iload_n 2, 1) := by decide +kernel
theorem dX8_readAll_3 : decode cX8_readAll 3 = .ok (.invokevirtual 64, 3) := by decide +kernel
theorem dX8_readAll_6 : decode cX8_readAll 6 = .ok (.iconst 0, 1) := by decide +kernel
theorem dX8_readAll_7 : decode cX8_readAll 7 = .ok (.istore_n 3, 1) := by decide +kernel
theorem dX8_readAll_8 : decode cX8_readAll 8 = .ok (.iload_n 3, 1) := by decide +kernel
theorem dX8_readAll_9 : decode cX8_readAll 9 = .ok (.bipush 20, 2) := by decide +kernel
theorem dX8_readAll_11 : decode cX8_readAll 11 = .ok (.if_icmp .ge 40, 3) := by decide +kernel
theorem dX8_readAll_14 : decode cX8_readAll 14 = .ok (.aload_n 0, 1) := by decide +kernel
theorem dX8_readAll_15 : decode cX8_readAll 15 = .ok (.getfield 18, 3) := by decide +kernel
theorem dX8_readAll_18 : decode cX8_readAll 18 = .ok (.getstatic 67, 3) := by decide +kernel
theorem dX8_readAll_21 : decode cX8_readAll 21 = .ok (.invokevirtual 56, 3) := by decide +kernel
theorem dX8_readAll_24 : decode cX8_readAll 24 = .ok (.ifCond .eq 27, 3) := by decide +kernel
theorem dX8_readAll_51 : decode cX8_readAll 51 = .ok (.return_, 1) := by decide +kernel
set_option maxRecDepth 20000 in
theorem ggX8_readAll_X8_readOne : GoodIn wsX8_readAll wsX8_readOne := goodIn_r _ [61, 1, 62, 63, 3, 64, 65, 66, 7, 67, 68, 14, 15, 11, 16, 17, 18, 19, 69, 70, 71, 72, 73, 74, 75, 76, 77, 78, 79, 80, 81, 82, 83, 84, 85, 86, 87, 88, 89, 90, 37, 32, 91, 33, 34, 35, 36, 92, 21, 22, 23, 24, 25, 26, 27, 28, 29, 30, 31, 38, 39, 40, 41, 42, 43, 44, 45, 46, 93, 94, 95, 96, 97, 98, 99, 100, 20, 101, 4, 5, 6, 47, 48, 49, 50, 51, 52, 53, 54, 55, 102, 103, 104, 105, 106, 107, 108, 109, 110, 111, 112, 113, 114, 115, 116, 117, 118, 119, 120, 121, 122, 123, 124, 125, 126, 127, 128, 129, 130, 131, 132, 133, 134, 135, 136, 137, 138, 0, 2, 8, 9, 10, 12, 13, 56, 57, 58, 59, 60, 139, 140, 141, 142, 143, 144, 145, 146, 147, 148, 149, 150, 151, 152, 153, 154, 155, 156, 157, 158, 159, 160, 161, 162, 163, 164, 165, 166, 167, 168, 169, 170, 171, 172, 173] rfl (by decide +kernel)
set_option maxRecDepth 20000 in
theorem gX8_readAll_X8_readOne : GoodIn wsX8_readAll (wsV RX8 64 RX8 yX8_readOne wsX8_readOne) := goodIn_app (goodIn_of _ (by decide +kernel)) ggX8_readAll_X8_readOne
set_option maxRecDepth 20000 in
theorem ggX8_readAll_X6_takeIf : GoodIn wsX8_readAll wsX6_takeIf := goodIn_r _ [12, 13, 14, 15, 11, 16, 17, 18, 19, 20, 21, 22, 23, 24, 25, 26, 27, 28, 29, 30, 31, 32, 33, 34, 35, 36, 37, 38, 39, 40, 41, 42, 43, 44, 45, 46, 142, 143, 144, 145, 146, 147, 148, 149, 150, 151] rfl (by decide +kernel)
set_option maxRecDepth 20000 in
theorem gX8_readAll_X6_takeIf : GoodIn wsX8_readAll (wsV RX8 56 RX6 yX6_takeIf wsX6_takeIf) := goodIn_app (goodIn_of _ (by decide +kernel)) ggX8_readAll_X6_takeIf
set_option maxHeartbeats 4000000 in
set_option maxRecDepth 100000 in
theorem c_readAll (l : Launch) (D : va_G) (ca : Nat → ClassId) (ad : Nat → Nat) (wt : Nat) (sz : Nat) (e0 : Nat) (lw : Nat) (ed0 : Nat) (e_ones : Int32) (t0 : Nat) (r_bytes : Nat) (r_length : Int32) (r_faultAt : Int32) (r_letters : Int64) (r_mostBytes : Int32) (r_behind : Int32) (r_number : Int32)  : sMet l yX8_readAll wsX8_readAll ({ frames := 3, cells := 0, slots := 0, locals := 66 } : Room) [.ref e0, .ref lw, .int 1] D ca ad wt sz [(e0, .inr (8, [.ref ed0, .int e_ones, .ref t0])), (t0, .inr (6, [.ref r_bytes, .int r_length, .int 0, .int r_faultAt, .long r_letters, .int r_mostBytes, .int r_behind, .int 0, .int 1, .int r_number]))] (oQv D (fun (u : Unit) => True) (fun (u : Unit) => [(e0, .inr (8, [.ref ed0, .int e_ones, .ref t0])), (t0, .inr (6, [.ref r_bytes, .int r_length, .int 1, .int 0, .long 0, .int r_mostBytes, .int r_behind, .int 0, .int 0, .int r_number]))])) 0 0 := by
  refine sM (cc := cX8_readAll) (maxL := 4) (ret := none) (by decide) rfl (Nat.le_of_ble_eq_true rfl) [(0, .ref e0), (1, .ref lw), (2, .int 1)] rfl ?_
  intro p e s m below meth c A H locs ls hx hb hr hml hts hown hlocks hin hK hP hD hA hS hl hZ
  have hown : s.vm.findClass RX8 = some m.cls := hown
  have k1 := hts (.fieldLink RX8 18 "LidCourt$SentenceReader" "reader" "LLidCourt$Reader;") (by decide +kernel)
  have k2 : ∀ w ∈ wsX80, w ∈ wsX8_readAll := fun _ h => List.mem_cons_of_mem _ (List.mem_append_left _ (List.mem_append_left _ (List.mem_append_left _ (List.mem_append_right _ h))))
  have k3 := hts (.fieldLink RX8 67 "LidCourt$Word" "AND" "LLidCourt$Word;") (by decide +kernel)
  refine lv_aload_n hx hb dX8_readAll_0 rfl (lv_at hl 0 rfl) ?_
  refine lv_aload_n hx hb dX8_readAll_1 rfl (lv_at hl 1 rfl) ?_
  refine lv_iload_n hx hb dX8_readAll_2 rfl (lv_at hl 2 rfl) ?_
  refine oC_v (Wc := [(e0, .inr (8, [.ref ed0, .int e_ones, .ref t0])), (t0, .inr (6, [.ref r_bytes, .int r_length, .int 0, .int r_faultAt, .long r_letters, .int r_mostBytes, .int r_behind, .int 0, .int 1, .int r_number]))]) (Wr := []) (va_runV (As := [.ref lw, .int 1]) (rest := []) ⟨hx, hb, hml, hown, hts⟩ (c_readOne l D ca ad wt H.size e0 lw ed0 e_ones t0 r_bytes r_length r_faultAt r_letters r_mostBytes r_behind r_number) (cwV 2 hts gX8_readAll_X8_readOne rfl rfl rfl (by decide +kernel) ⟨Nat.le_of_ble_eq_true rfl, Nat.le_of_ble_eq_true rfl⟩) (sPV (C := RX8) hZ hS hA hK hP hD [0, 1] rfl (by decide) 0 rfl (ci := 8) rfl rfl) rfl rfl hl.1 rfl (lv_room (Nat.le_of_ble_eq_true rfl)) dX8_readAll_3 ⟨Nat.le_of_ble_eq_true rfl, Nat.le_of_ble_eq_true rfl⟩) hP hD hS hA [0, 1] [] rfl rfl (by decide) (by decide) (fun u H locs w_2 hP hD hS => ?_)
  obtain ⟨⟩ := u
  have hP : va_P D vwCl [(e0, .inr (8, [.ref ed0, .int e_ones, .ref t0])), (t0, .inr (6, [.ref r_bytes, .int r_length, .int 1, .int 0, .long 0, .int r_mostBytes, .int r_behind, .int 0, .int 0, .int r_number]))] H := hP
  have hD : va_D A [(e0, .inr (8, [.ref ed0, .int e_ones, .ref t0])), (t0, .inr (6, [.ref r_bytes, .int r_length, .int 1, .int 0, .long 0, .int r_mostBytes, .int r_behind, .int 0, .int 0, .int r_number]))] := hD
  refine lv_iconst (v := 0) hx hb dX8_readAll_6 (by decide) ?_
  refine lv_istore_n (lv' := [(3, .int 0), (0, .ref e0), (1, .ref lw), (2, .int 1)]) hx hb dX8_readAll_7 rfl hl (by decide) rfl (fun ls hl => ?_)
  refine lv_iload_n hx hb dX8_readAll_8 rfl (lv_at hl 0 rfl) ?_
  refine lv_bipush (v := 20) hx hb dX8_readAll_9 (by decide) ?_
  refine lv_icmp_ge (tgt := 51) hx hb dX8_readAll_11 (by decide) (fun c => absurd c (by decide)) (fun _ => ?_)
  refine lv_aload_n hx hb dX8_readAll_14 rfl (lv_at hl 1 rfl) ?_
  refine va_get (D := D) (ci := 8) (v := .ref t0) (C := RX8) (T := TX8) (N := 3) hx hb hts k2 hown hK.1 hP 0 rfl rfl 2 (by decide) k1 (fun _ h9 => h9) rfl dX8_readAll_15 ?_
  refine va_gets (v := .ref (ad 16)) hx hb hZ.2.2.2.2.2.1 hS hown k3 (fun _ h9 => h9) dX8_readAll_18 ?_
  refine oC_i (Wc := [(t0, .inr (6, [.ref r_bytes, .int r_length, .int 1, .int 0, .long 0, .int r_mostBytes, .int r_behind, .int 0, .int 0, .int r_number]))]) (Wr := [(e0, .inr (8, [.ref ed0, .int e_ones, .ref t0]))]) (va_runV (As := [.ref (ad 16)]) (rest := []) ⟨hx, hb, hml, hown, hts⟩ (c_takeIf l D ca H.size t0 (ad 16) r_bytes r_length 1 0 0 r_mostBytes r_behind 0 r_number) (cwV 1 hts gX8_readAll_X6_takeIf rfl rfl rfl (by decide +kernel) ⟨Nat.le_of_ble_eq_true rfl, Nat.le_of_ble_eq_true rfl⟩) (oPV (C := RX6) hK hP hD [1] rfl (by decide) 0 rfl (ci := 6) rfl rfl) rfl rfl hl.1 rfl (lv_room (Nat.le_of_ble_eq_true rfl)) dX8_readAll_21 ⟨Nat.le_of_ble_eq_true rfl, Nat.le_of_ble_eq_true rfl⟩) hP hD hS hA [1] [0] rfl rfl (by decide) (by decide) (fun r_3 u H locs w_4 hP hD hS => ?_)
  obtain ⟨⟩ := u
  try dsimp only at w_4
  subst w_4
  have hP : va_P D vwCl [(e0, .inr (8, [.ref ed0, .int e_ones, .ref t0])), (t0, .inr (6, [.ref r_bytes, .int r_length, .int 1, .int 0, .long 0, .int r_mostBytes, .int r_behind, .int 0, .int 0, .int r_number]))] H := hP
  have hD : va_D A [(e0, .inr (8, [.ref ed0, .int e_ones, .ref t0])), (t0, .inr (6, [.ref r_bytes, .int r_length, .int 1, .int 0, .long 0, .int r_mostBytes, .int r_behind, .int 0, .int 0, .int r_number]))] := hD
  refine lv_if_eq (tgt := 51) hx hb dX8_readAll_24 (by decide) (fun _ => ?_) (fun c => absurd (by decide) c)
  exact oE_v hx hb hr hlocks hP hD hS () [0, 1] rfl (by decide) trivial (Nat.le_of_ble_eq_true rfl) (Nat.le_of_ble_eq_true rfl) dX8_readAll_51
theorem dX8_readCond_0 : decode cX8_readCond 0 = .ok (.aload_n 0, 1) := by decide +kernel
theorem dX8_readCond_1 : decode cX8_readCond 1 = .ok (.aload_n 1, 1) := by decide +kernel
theorem dX8_readCond_2 : decode cX8_readCond 2 = .ok (.iload_n 2, 1) := by decide +kernel
theorem dX8_readCond_3 : decode cX8_readCond 3 = .ok (.invokevirtual 46, 3) := by decide +kernel
theorem dX8_readCond_6 : decode cX8_readCond 6 = .ok (.iconst 0, 1) := by decide +kernel
theorem dX8_readCond_7 : decode cX8_readCond 7 = .ok (.istore_n 3, 1) := by decide +kernel
theorem dX8_readCond_8 : decode cX8_readCond 8 = .ok (.iload_n 3, 1) := by decide +kernel
theorem dX8_readCond_9 : decode cX8_readCond 9 = .ok (.bipush 20, 2) := by decide +kernel
theorem dX8_readCond_11 : decode cX8_readCond 11 = .ok (.if_icmp .ge 40, 3) := by decide +kernel
theorem dX8_readCond_14 : decode cX8_readCond 14 = .ok (.aload_n 0, 1) := by decide +kernel
theorem dX8_readCond_15 : decode cX8_readCond 15 = .ok (.getfield 18, 3) := by decide +kernel
theorem dX8_readCond_18 : decode cX8_readCond 18 = .ok (.getstatic 50, 3) := by decide +kernel
theorem dX8_readCond_21 : decode cX8_readCond 21 = .ok (.invokevirtual 56, 3) := by decide +kernel
theorem dX8_readCond_24 : decode cX8_readCond 24 = .ok (.ifCond .eq 27, 3) := by decide +kernel
theorem dX8_readCond_51 : decode cX8_readCond 51 = .ok (.return_, 1) := by decide +kernel
set_option maxRecDepth 20000 in
theorem ggX8_readCond_X8_readAll : GoodIn wsX8_readCond wsX8_readAll := goodIn_r _ [56, 1, 57, 3, 58, 59, 60, 7, 8, 9, 10, 11, 12, 13, 14, 15, 16, 17, 18, 19, 20, 21, 22, 23, 24, 25, 26, 27, 28, 29, 30, 31, 32, 33, 34, 35, 36, 37, 38, 39, 40, 41, 42, 43, 44, 45, 46, 47, 48, 49, 50, 51, 52, 53, 54, 55, 0, 2, 4, 5, 6, 61, 62, 63, 64, 65, 66, 67, 68, 69, 70, 71, 72, 73, 74, 75, 76, 77, 78, 79, 80, 81, 82, 83, 84, 85, 86, 87, 88, 89, 90, 91, 92, 93, 94, 95, 96, 97, 98, 99, 100, 101, 102, 103, 104, 105, 106, 107, 108, 109, 110, 111, 112, 113, 114, 115, 116, 117, 118, 119, 120, 121, 122, 123, 124, 125, 126, 127, 128, 129, 130, 131, 132, 133, 134, 135, 136, 137, 138, 139, 140, 141, 142, 143, 144, 145, 146, 147, 148, 149, 150, 151, 152, 153, 154, 155, 156, 157, 158, 159, 160, 161, 162, 163, 164, 165, 166, 167, 168, 169, 170, 171, 172, 173] rfl (by decide +kernel)
set_option maxRecDepth 20000 in
theorem gX8_readCond_X8_readAll : GoodIn wsX8_readCond (wsV RX8 46 RX8 yX8_readAll wsX8_readAll) := goodIn_app (goodIn_of _ (by decide +kernel)) ggX8_readCond_X8_readAll
set_option maxRecDepth 20000 in
theorem ggX8_readCond_X6_takeIf : GoodIn wsX8_readCond wsX6_takeIf := goodIn_r _ [12, 13, 14, 15, 11, 16, 17, 18, 19, 20, 21, 22, 23, 24, 25, 26, 27, 28, 29, 30, 31, 32, 33, 34, 35, 36, 37, 38, 39, 40, 41, 42, 43, 44, 45, 46, 142, 143, 144, 145, 146, 147, 148, 149, 150, 151] rfl (by decide +kernel)
set_option maxRecDepth 20000 in
theorem gX8_readCond_X6_takeIf : GoodIn wsX8_readCond (wsV RX8 56 RX6 yX6_takeIf wsX6_takeIf) := goodIn_app (goodIn_of _ (by decide +kernel)) ggX8_readCond_X6_takeIf
set_option maxHeartbeats 4000000 in
set_option maxRecDepth 100000 in
theorem c_readCond (l : Launch) (D : va_G) (ca : Nat → ClassId) (ad : Nat → Nat) (wt : Nat) (sz : Nat) (e0 : Nat) (lw : Nat) (ed0 : Nat) (e_ones : Int32) (t0 : Nat) (r_bytes : Nat) (r_length : Int32) (r_faultAt : Int32) (r_letters : Int64) (r_mostBytes : Int32) (r_behind : Int32) (r_number : Int32)  : sMet l yX8_readCond wsX8_readCond ({ frames := 4, cells := 0, slots := 0, locals := 89 } : Room) [.ref e0, .ref lw, .int 1] D ca ad wt sz [(e0, .inr (8, [.ref ed0, .int e_ones, .ref t0])), (t0, .inr (6, [.ref r_bytes, .int r_length, .int 0, .int r_faultAt, .long r_letters, .int r_mostBytes, .int r_behind, .int 0, .int 1, .int r_number]))] (oQv D (fun (u : Unit) => True) (fun (u : Unit) => [(e0, .inr (8, [.ref ed0, .int e_ones, .ref t0])), (t0, .inr (6, [.ref r_bytes, .int r_length, .int 1, .int 0, .long 0, .int r_mostBytes, .int r_behind, .int 0, .int 0, .int r_number]))])) 0 0 := by
  refine sM (cc := cX8_readCond) (maxL := 4) (ret := none) (by decide) rfl (Nat.le_of_ble_eq_true rfl) [(0, .ref e0), (1, .ref lw), (2, .int 1)] rfl ?_
  intro p e s m below meth c A H locs ls hx hb hr hml hts hown hlocks hin hK hP hD hA hS hl hZ
  have hown : s.vm.findClass RX8 = some m.cls := hown
  have k1 := hts (.fieldLink RX8 18 "LidCourt$SentenceReader" "reader" "LLidCourt$Reader;") (by decide +kernel)
  have k2 : ∀ w ∈ wsX80, w ∈ wsX8_readCond := fun _ h => List.mem_cons_of_mem _ (List.mem_append_left _ (List.mem_append_left _ (List.mem_append_left _ (List.mem_append_right _ h))))
  have k3 := hts (.fieldLink RX8 50 "LidCourt$Word" "OR" "LLidCourt$Word;") (by decide +kernel)
  refine lv_aload_n hx hb dX8_readCond_0 rfl (lv_at hl 0 rfl) ?_
  refine lv_aload_n hx hb dX8_readCond_1 rfl (lv_at hl 1 rfl) ?_
  refine lv_iload_n hx hb dX8_readCond_2 rfl (lv_at hl 2 rfl) ?_
  refine oC_v (Wc := [(e0, .inr (8, [.ref ed0, .int e_ones, .ref t0])), (t0, .inr (6, [.ref r_bytes, .int r_length, .int 0, .int r_faultAt, .long r_letters, .int r_mostBytes, .int r_behind, .int 0, .int 1, .int r_number]))]) (Wr := []) (va_runV (As := [.ref lw, .int 1]) (rest := []) ⟨hx, hb, hml, hown, hts⟩ (c_readAll l D ca ad wt H.size e0 lw ed0 e_ones t0 r_bytes r_length r_faultAt r_letters r_mostBytes r_behind r_number) (cwV 2 hts gX8_readCond_X8_readAll rfl rfl rfl (by decide +kernel) ⟨Nat.le_of_ble_eq_true rfl, Nat.le_of_ble_eq_true rfl⟩) (sPV (C := RX8) hZ hS hA hK hP hD [0, 1] rfl (by decide) 0 rfl (ci := 8) rfl rfl) rfl rfl hl.1 rfl (lv_room (Nat.le_of_ble_eq_true rfl)) dX8_readCond_3 ⟨Nat.le_of_ble_eq_true rfl, Nat.le_of_ble_eq_true rfl⟩) hP hD hS hA [0, 1] [] rfl rfl (by decide) (by decide) (fun u H locs w_2 hP hD hS => ?_)
  obtain ⟨⟩ := u
  have hP : va_P D vwCl [(e0, .inr (8, [.ref ed0, .int e_ones, .ref t0])), (t0, .inr (6, [.ref r_bytes, .int r_length, .int 1, .int 0, .long 0, .int r_mostBytes, .int r_behind, .int 0, .int 0, .int r_number]))] H := hP
  have hD : va_D A [(e0, .inr (8, [.ref ed0, .int e_ones, .ref t0])), (t0, .inr (6, [.ref r_bytes, .int r_length, .int 1, .int 0, .long 0, .int r_mostBytes, .int r_behind, .int 0, .int 0, .int r_number]))] := hD
  refine lv_iconst (v := 0) hx hb dX8_readCond_6 (by decide) ?_
  refine lv_istore_n (lv' := [(3, .int 0), (0, .ref e0), (1, .ref lw), (2, .int 1)]) hx hb dX8_readCond_7 rfl hl (by decide) rfl (fun ls hl => ?_)
  refine lv_iload_n hx hb dX8_readCond_8 rfl (lv_at hl 0 rfl) ?_
  refine lv_bipush (v := 20) hx hb dX8_readCond_9 (by decide) ?_
  refine lv_icmp_ge (tgt := 51) hx hb dX8_readCond_11 (by decide) (fun c => absurd c (by decide)) (fun _ => ?_)
  refine lv_aload_n hx hb dX8_readCond_14 rfl (lv_at hl 1 rfl) ?_
  refine va_get (D := D) (ci := 8) (v := .ref t0) (C := RX8) (T := TX8) (N := 3) hx hb hts k2 hown hK.1 hP 0 rfl rfl 2 (by decide) k1 (fun _ h9 => h9) rfl dX8_readCond_15 ?_
  refine va_gets (v := .ref (ad 15)) hx hb hZ.2.2.2.2.2.2.1 hS hown k3 (fun _ h9 => h9) dX8_readCond_18 ?_
  refine oC_i (Wc := [(t0, .inr (6, [.ref r_bytes, .int r_length, .int 1, .int 0, .long 0, .int r_mostBytes, .int r_behind, .int 0, .int 0, .int r_number]))]) (Wr := [(e0, .inr (8, [.ref ed0, .int e_ones, .ref t0]))]) (va_runV (As := [.ref (ad 15)]) (rest := []) ⟨hx, hb, hml, hown, hts⟩ (c_takeIf l D ca H.size t0 (ad 15) r_bytes r_length 1 0 0 r_mostBytes r_behind 0 r_number) (cwV 1 hts gX8_readCond_X6_takeIf rfl rfl rfl (by decide +kernel) ⟨Nat.le_of_ble_eq_true rfl, Nat.le_of_ble_eq_true rfl⟩) (oPV (C := RX6) hK hP hD [1] rfl (by decide) 0 rfl (ci := 6) rfl rfl) rfl rfl hl.1 rfl (lv_room (Nat.le_of_ble_eq_true rfl)) dX8_readCond_21 ⟨Nat.le_of_ble_eq_true rfl, Nat.le_of_ble_eq_true rfl⟩) hP hD hS hA [1] [0] rfl rfl (by decide) (by decide) (fun r_3 u H locs w_4 hP hD hS => ?_)
  obtain ⟨⟩ := u
  try dsimp only at w_4
  subst w_4
  have hP : va_P D vwCl [(e0, .inr (8, [.ref ed0, .int e_ones, .ref t0])), (t0, .inr (6, [.ref r_bytes, .int r_length, .int 1, .int 0, .long 0, .int r_mostBytes, .int r_behind, .int 0, .int 0, .int r_number]))] H := hP
  have hD : va_D A [(e0, .inr (8, [.ref ed0, .int e_ones, .ref t0])), (t0, .inr (6, [.ref r_bytes, .int r_length, .int 1, .int 0, .long 0, .int r_mostBytes, .int r_behind, .int 0, .int 0, .int r_number]))] := hD
  refine lv_if_eq (tgt := 51) hx hb dX8_readCond_24 (by decide) (fun _ => ?_) (fun c => absurd (by decide) c)
  exact oE_v hx hb hr hlocks hP hD hS () [0, 1] rfl (by decide) trivial (Nat.le_of_ble_eq_true rfl) (Nat.le_of_ble_eq_true rfl) dX8_readCond_51
theorem dX8_finish_0 : decode cX8_finish 0 = .ok (.aload_n 0, 1) := by decide +kernel
theorem dX8_finish_1 : decode cX8_finish 1 = .ok (.getfield 18, 3) := by decide +kernel
theorem dX8_finish_4 : decode cX8_finish 4 = .ok (.invokevirtual 35, 3) := by decide +kernel
theorem dX8_finish_7 : decode cX8_finish 7 = .ok (.ifCond .eq 11, 3) := by decide +kernel
theorem dX8_finish_18 : decode cX8_finish 18 = .ok (.aload_n 0, 1) := by decide +kernel
theorem dX8_finish_19 : decode cX8_finish 19 = .ok (.getfield 12, 3) := by decide +kernel
theorem dX8_finish_22 : decode cX8_finish 22 = .ok (.iconst 1, 1) := by decide +kernel
theorem dX8_finish_23 : decode cX8_finish 23 = .ok (.putfield 42, 3) := by decide +kernel
theorem dX8_finish_26 : decode cX8_finish 26 = .ok (.return_, 1) := by decide +kernel
set_option maxRecDepth 20000 in
theorem ggX8_finish_X6_goesOn : GoodIn wsX8_finish wsX6_goesOn := goodIn_r _ [8, 9, 10, 11, 12, 7, 13, 14, 31, 32, 33, 34, 35, 36, 37, 38, 39, 40] rfl (by decide +kernel)
set_option maxRecDepth 20000 in
theorem gX8_finish_X6_goesOn : GoodIn wsX8_finish (wsV RX8 35 RX6 yX6_goesOn wsX6_goesOn) := goodIn_app (goodIn_of _ (by decide +kernel)) ggX8_finish_X6_goesOn
set_option maxHeartbeats 4000000 in
set_option maxRecDepth 100000 in
theorem c_X8_finish (l : Launch) (D : va_G) (ca : Nat → ClassId) (sz : Nat) (e0 : Nat) (ed0 : Nat) (e_ones : Int32) (t0 : Nat) (y_present : Int32) (y_steps : Int32) (y_word : Nat) (y_first : Nat) (y_second : Nat) (y_sets : Nat) (r_bytes : Nat) (r_length : Int32) (r_faultAt : Int32) (r_letters : Int64) (r_mostBytes : Int32) (r_behind : Int32) (r_at : Int32) (r_kind : Int32) (r_number : Int32)  : oMet l yX8_finish wsX8_finish ({ frames := 2, cells := 0, slots := 0, locals := 40 } : Room) [.ref e0] D ca sz [(e0, .inr (8, [.ref ed0, .int e_ones, .ref t0])), (ed0, .inr (7, [.int y_present, .int y_steps, .ref y_word, .ref y_first, .ref y_second, .ref y_sets])), (t0, .inr (6, [.ref r_bytes, .int r_length, .int 1, .int r_faultAt, .long r_letters, .int r_mostBytes, .int r_behind, .int r_at, .int r_kind, .int r_number]))] (oQv D (fun (u : Unit) => True) (fun (u : Unit) => [(e0, .inr (8, [.ref ed0, .int e_ones, .ref t0])), (ed0, .inr (7, [.int 1, .int y_steps, .ref y_word, .ref y_first, .ref y_second, .ref y_sets])), (t0, .inr (6, [.ref r_bytes, .int r_length, .int 1, .int r_faultAt, .long r_letters, .int r_mostBytes, .int r_behind, .int r_at, .int r_kind, .int r_number]))])) 0 0 := by
  refine oM (cc := cX8_finish) (maxL := 1) (ret := none) (by decide) rfl (Nat.le_of_ble_eq_true rfl) [(0, .ref e0)] rfl ?_
  intro p e s m below meth c A H locs ls hx hb hr hml hts hown hlocks hin hK hP hD hA hS hl
  have hown : s.vm.findClass RX8 = some m.cls := hown
  have k1 := hts (.fieldLink RX8 18 "LidCourt$SentenceReader" "reader" "LLidCourt$Reader;") (by decide +kernel)
  have k2 : ∀ w ∈ wsX80, w ∈ wsX8_finish := fun _ h => List.mem_cons_of_mem _ (List.mem_append_left _ (List.mem_append_left _ (List.mem_append_right _ h)))
  have k3 := hts (.fieldLink RX8 12 "LidCourt$SentenceReader" "draft" "LLidCourt$Saying;") (by decide +kernel)
  have k4 := hts (.fieldLink RX8 42 "LidCourt$Saying" "present" "Z") (by decide +kernel)
  have k5 : ∀ w ∈ wsX70, w ∈ wsX8_finish := fun _ h => List.mem_cons_of_mem _ (List.mem_append_left _ (List.mem_append_right _ h))
  refine lv_aload_n hx hb dX8_finish_0 rfl (lv_at hl 0 rfl) ?_
  refine va_get (D := D) (ci := 8) (v := .ref t0) (C := RX8) (T := TX8) (N := 3) hx hb hts k2 hown hK.1 hP 0 rfl rfl 2 (by decide) k1 (fun _ h9 => h9) rfl dX8_finish_1 ?_
  refine oC_i (Wc := [(t0, .inr (6, [.ref r_bytes, .int r_length, .int 1, .int r_faultAt, .long r_letters, .int r_mostBytes, .int r_behind, .int r_at, .int r_kind, .int r_number]))]) (Wr := [(e0, .inr (8, [.ref ed0, .int e_ones, .ref t0])), (ed0, .inr (7, [.int y_present, .int y_steps, .ref y_word, .ref y_first, .ref y_second, .ref y_sets]))]) (va_runV (As := []) (rest := []) ⟨hx, hb, hml, hown, hts⟩ (c_goesOn1 l D ca H.size t0 r_bytes r_length r_faultAt r_letters r_mostBytes r_behind r_at r_kind r_number) (cwV 0 hts gX8_finish_X6_goesOn rfl rfl rfl (by decide +kernel) ⟨Nat.le_of_ble_eq_true rfl, Nat.le_of_ble_eq_true rfl⟩) (oPV (C := RX6) hK hP hD [2] rfl (by decide) 0 rfl (ci := 6) rfl rfl) rfl rfl hl.1 rfl (lv_room (Nat.le_of_ble_eq_true rfl)) dX8_finish_4 ⟨Nat.le_of_ble_eq_true rfl, Nat.le_of_ble_eq_true rfl⟩) hP hD hS hA [2] [0, 1] rfl rfl (by decide) (by decide) (fun r_1 u H locs w_2 hP hD hS => ?_)
  obtain ⟨⟩ := u
  try dsimp only at w_2
  subst w_2
  have hP : va_P D vwCl [(e0, .inr (8, [.ref ed0, .int e_ones, .ref t0])), (ed0, .inr (7, [.int y_present, .int y_steps, .ref y_word, .ref y_first, .ref y_second, .ref y_sets])), (t0, .inr (6, [.ref r_bytes, .int r_length, .int 1, .int r_faultAt, .long r_letters, .int r_mostBytes, .int r_behind, .int r_at, .int r_kind, .int r_number]))] H := hP
  have hD : va_D A [(e0, .inr (8, [.ref ed0, .int e_ones, .ref t0])), (ed0, .inr (7, [.int y_present, .int y_steps, .ref y_word, .ref y_first, .ref y_second, .ref y_sets])), (t0, .inr (6, [.ref r_bytes, .int r_length, .int 1, .int r_faultAt, .long r_letters, .int r_mostBytes, .int r_behind, .int r_at, .int r_kind, .int r_number]))] := hD
  refine lv_if_eq (tgt := 18) hx hb dX8_finish_7 (by decide) (fun _ => ?_) (fun c => absurd (by decide) c)
  refine lv_aload_n hx hb dX8_finish_18 rfl (lv_at hl 0 rfl) ?_
  refine va_get (D := D) (ci := 8) (v := .ref ed0) (C := RX8) (T := TX8) (N := 3) hx hb hts k2 hown hK.1 hP 0 rfl rfl 0 (by decide) k3 (fun _ h9 => h9) rfl dX8_finish_19 ?_
  refine lv_iconst (v := 1) hx hb dX8_finish_22 (by decide) ?_
  refine va_put (D := D) (ci := 7) (v := .int 1) (ty := .boolean) (C := RX7) (T := TX7) (N := 6) hx hb hts k5 tyX7 tyX7_ok nmX7 hown hK.1 hP hD hS 1 rfl rfl 0 (by decide) k4 (fun _ h9 => h9) rfl (by decide +kernel) (by decide) rfl (Nat.le_of_ble_eq_true rfl) dX8_finish_23 (fun H locs hP hD hS => ?_)
  have hP : va_P D vwCl [(e0, .inr (8, [.ref ed0, .int e_ones, .ref t0])), (ed0, .inr (7, [.int 1, .int y_steps, .ref y_word, .ref y_first, .ref y_second, .ref y_sets])), (t0, .inr (6, [.ref r_bytes, .int r_length, .int 1, .int r_faultAt, .long r_letters, .int r_mostBytes, .int r_behind, .int r_at, .int r_kind, .int r_number]))] H := hP
  have hD : va_D A [(e0, .inr (8, [.ref ed0, .int e_ones, .ref t0])), (ed0, .inr (7, [.int 1, .int y_steps, .ref y_word, .ref y_first, .ref y_second, .ref y_sets])), (t0, .inr (6, [.ref r_bytes, .int r_length, .int 1, .int r_faultAt, .long r_letters, .int r_mostBytes, .int r_behind, .int r_at, .int r_kind, .int r_number]))] := hD
  exact oE_v hx hb hr hlocks hP hD hS () [0, 1, 2] rfl (by decide) trivial (Nat.le_of_ble_eq_true rfl) (Nat.le_of_ble_eq_true rfl) dX8_finish_26
theorem dX11_sentence_0 : decode cX11_sentence 0 = .ok (.aload_n 0, 1) := by decide +kernel
theorem dX11_sentence_1 : decode cX11_sentence 1 = .ok (.getfield 56, 3) := by decide +kernel
theorem dX11_sentence_4 : decode cX11_sentence 4 = .ok (.invokevirtual 345, 3) := by decide +kernel
theorem dX11_sentence_7 : decode cX11_sentence 7 = .ok (.aload_n 0, 1) := by decide +kernel
theorem dX11_sentence_8 : decode cX11_sentence 8 = .ok (.getfield 56, 3) := by decide +kernel
theorem dX11_sentence_11 : decode cX11_sentence 11 = .ok (.aload_n 0, 1) := by decide +kernel
theorem dX11_sentence_12 : decode cX11_sentence 12 = .ok (.getfield 19, 3) := by decide +kernel
theorem dX11_sentence_15 : decode cX11_sentence 15 = .ok (.iconst 1, 1) := by decide +kernel
theorem dX11_sentence_16 : decode cX11_sentence 16 = .ok (.invokevirtual 347, 3) := by decide +kernel
theorem dX11_sentence_19 : decode cX11_sentence 19 = .ok (.aload_n 0, 1) := by decide +kernel
theorem dX11_sentence_20 : decode cX11_sentence 20 = .ok (.getfield 56, 3) := by decide +kernel
theorem dX11_sentence_23 : decode cX11_sentence 23 = .ok (.invokevirtual 351, 3) := by decide +kernel
theorem dX11_sentence_26 : decode cX11_sentence 26 = .ok (.aload_n 0, 1) := by decide +kernel
theorem dX11_sentence_27 : decode cX11_sentence 27 = .ok (.getfield 10, 3) := by decide +kernel
theorem dX11_sentence_30 : decode cX11_sentence 30 = .ok (.iconst 0, 1) := by decide +kernel
theorem dX11_sentence_31 : decode cX11_sentence 31 = .ok (.putfield 102, 3) := by decide +kernel
theorem dX11_sentence_34 : decode cX11_sentence 34 = .ok (.aload_n 0, 1) := by decide +kernel
theorem dX11_sentence_35 : decode cX11_sentence 35 = .ok (.getfield 10, 3) := by decide +kernel
theorem dX11_sentence_38 : decode cX11_sentence 38 = .ok (.invokevirtual 114, 3) := by decide +kernel
theorem dX11_sentence_41 : decode cX11_sentence 41 = .ok (.ifCond .eq 13, 3) := by decide +kernel
theorem dX11_sentence_44 : decode cX11_sentence 44 = .ok (.iconst (-1), 1) := by decide +kernel
theorem dX11_sentence_45 : decode cX11_sentence 45 = .ok (.aload_n 0, 1) := by decide +kernel
theorem dX11_sentence_46 : decode cX11_sentence 46 = .ok (.getfield 10, 3) := by decide +kernel
theorem dX11_sentence_49 : decode cX11_sentence 49 = .ok (.getfield 118, 3) := by decide +kernel
theorem dX11_sentence_52 : decode cX11_sentence 52 = .ok (.isub, 1) := by decide +kernel
theorem dX11_sentence_53 : decode cX11_sentence 53 = .ok (.ireturn, 1) := by decide +kernel
set_option maxRecDepth 20000 in
theorem ggX11_sentence_X8_begin : GoodIn wsX11_sentence wsX8_begin := goodIn_r _ [13, 14, 15, 16, 17, 18, 19, 20, 21, 22, 23, 24, 25, 26, 27, 28, 29, 30, 31, 32, 33, 34, 35, 36, 37, 38, 39, 40, 41, 42, 43, 44, 45, 46, 47, 48, 49, 50, 51, 52, 53, 54, 55, 56, 57, 58, 201, 202, 203, 204, 205, 206, 207, 208, 209, 191, 192, 193, 194, 195, 196, 197, 198, 199, 200] rfl (by decide +kernel)
set_option maxRecDepth 20000 in
theorem gX11_sentence_X8_begin : GoodIn wsX11_sentence (wsV RX11 345 RX8 yX8_begin wsX8_begin) := goodIn_app (goodIn_of _ (by decide +kernel)) ggX11_sentence_X8_begin
set_option maxRecDepth 20000 in
theorem ggX11_sentence_X8_readCond : GoodIn wsX11_sentence wsX8_readCond := goodIn_r _ [62, 16, 63, 14, 64, 65, 66, 12, 67, 68, 69, 27, 70, 71, 72, 73, 74, 45, 43, 75, 33, 34, 35, 36, 37, 29, 38, 39, 40, 41, 30, 42, 44, 46, 47, 48, 49, 31, 50, 51, 52, 53, 54, 55, 56, 57, 58, 76, 77, 78, 20, 79, 23, 80, 81, 82, 83, 84, 85, 86, 87, 88, 89, 15, 90, 91, 92, 93, 94, 95, 96, 97, 98, 99, 100, 101, 102, 103, 104, 105, 106, 107, 108, 109, 110, 111, 112, 113, 114, 115, 116, 32, 117, 118, 60, 61, 119, 120, 121, 122, 123, 124, 125, 126, 127, 128, 129, 130, 131, 132, 133, 134, 135, 136, 137, 138, 139, 140, 141, 142, 143, 144, 145, 146, 147, 148, 149, 150, 151, 152, 153, 154, 155, 156, 157, 158, 159, 160, 161, 201, 202, 203, 191, 192, 193, 194, 195, 196, 197, 198, 199, 200, 204, 205, 206, 207, 208, 209, 210, 211, 212, 213, 214, 215, 216, 217, 218, 219, 220, 221, 222, 223, 224, 225] rfl (by decide +kernel)
set_option maxRecDepth 20000 in
theorem gX11_sentence_X8_readCond : GoodIn wsX11_sentence (wsV RX11 347 RX8 yX8_readCond wsX8_readCond) := goodIn_app (goodIn_of _ (by decide +kernel)) ggX11_sentence_X8_readCond
set_option maxRecDepth 20000 in
theorem ggX11_sentence_X8_finish : GoodIn wsX11_sentence wsX8_finish := goodIn_r _ [165, 16, 14, 166, 167, 168, 169, 27, 170, 45, 46, 47, 48, 49, 31, 113, 114, 115, 116, 44, 32, 43, 201, 202, 203, 204, 205, 206, 207, 208, 209, 191, 192, 193, 194, 195, 196, 197, 198, 199, 200] rfl (by decide +kernel)
set_option maxRecDepth 20000 in
theorem gX11_sentence_X8_finish : GoodIn wsX11_sentence (wsV RX11 351 RX8 yX8_finish wsX8_finish) := goodIn_app (goodIn_of _ (by decide +kernel)) ggX11_sentence_X8_finish
set_option maxRecDepth 20000 in
theorem ggX11_sentence_X6_isBroken : GoodIn wsX11_sentence wsX6_isBroken := goodIn_r _ [49, 31, 191, 192, 193, 194, 195, 196, 197, 198, 199, 200] rfl (by decide +kernel)
set_option maxRecDepth 20000 in
theorem gX11_sentence_X6_isBroken : GoodIn wsX11_sentence (wsV RX11 114 RX6 yX6_isBroken wsX6_isBroken) := goodIn_app (goodIn_of _ (by decide +kernel)) ggX11_sentence_X6_isBroken
set_option maxHeartbeats 4000000 in
set_option maxRecDepth 100000 in
theorem c_sentence (l : Launch) (D : va_G) (ca : Nat → ClassId) (ad : Nat → Nat) (wt : Nat) (sz : Nat) (h0 : Nat) (t0 : Nat) (l0 : Nat) (s0 : Nat) (y0 : Nat) (c0 : Nat) (b0 : Nat) (e0 : Nat) (n0 : Nat) (w0 : Nat) (i0 : Nat) (g0 : Nat) (a0 : Nat) (k0 : Nat) (z0 : Nat) (r_bytes : Nat) (r_faultKind : Int32) (r_faultAt : Int32) (r_letters : Int64) (r_mostBytes : Int32) (r_behind : Int32) (r_at : Int32) (r_kind : Int32) (r_number : Int32) (ed0 : Nat) (e_ones : Int32) (y_present : Int32) (y_steps : Int32) (y_word : Nat) (y_first : Nat) (y_second : Nat) (y_sets : Nat)  : sMet l yX11_sentence wsX11_sentence ({ frames := 5, cells := 0, slots := 0, locals := 112 } : Room) [.ref h0] D ca ad wt sz [(h0, .inr (10, [.ref t0, .ref l0, .ref s0, .ref y0, .ref c0, .ref b0, .ref e0, .ref n0, .ref w0, .ref i0, .ref g0, .ref a0, .ref k0, .ref z0, .int 0])), (t0, .inr (6, [.ref r_bytes, .int 0, .int r_faultKind, .int r_faultAt, .long r_letters, .int r_mostBytes, .int r_behind, .int r_at, .int r_kind, .int r_number])), (e0, .inr (8, [.ref ed0, .int e_ones, .ref t0])), (ed0, .inr (7, [.int y_present, .int y_steps, .ref y_word, .ref y_first, .ref y_second, .ref y_sets]))] (oQi D (fun (r : Int32) (u : Unit) => r = (-1)) (fun (u : Unit) => [])) 0 0 := by
  refine sM (cc := cX11_sentence) (maxL := 1) (ret := (some .int)) (by decide) rfl (Nat.le_of_ble_eq_true rfl) [(0, .ref h0)] rfl ?_
  intro p e s m below meth c A H locs ls hx hb hr hml hts hown hlocks hin hK hP hD hA hS hl hZ
  have hown : s.vm.findClass RX11 = some m.cls := hown
  have k1 := hts (.fieldLink RX11 56 "LidCourt" "sentenceReader" "LLidCourt$SentenceReader;") (by decide +kernel)
  have k2 : ∀ w ∈ wsX110, w ∈ wsX11_sentence := fun _ h => List.mem_cons_of_mem _ (List.mem_append_left _ (List.mem_append_left _ (List.mem_append_left _ (List.mem_append_left _ (List.mem_append_right _ h)))))
  have k3 := hts (.fieldLink RX11 19 "LidCourt" "law" "LLidCourt$Law;") (by decide +kernel)
  have k4 := hts (.fieldLink RX11 10 "LidCourt" "tape" "LLidCourt$Reader;") (by decide +kernel)
  have k5 := hts (.fieldLink RX11 102 "LidCourt$Reader" "length" "I") (by decide +kernel)
  have k6 : ∀ w ∈ wsX60, w ∈ wsX11_sentence := fun _ h => List.mem_cons_of_mem _ (List.mem_append_left _ (List.mem_append_left _ (List.mem_append_left _ (List.mem_append_right _ h))))
  have k7 := hts (.fieldLink RX11 118 "LidCourt$Reader" "faultAt" "I") (by decide +kernel)
  refine lv_aload_n hx hb dX11_sentence_0 rfl (lv_at hl 0 rfl) ?_
  refine va_get (D := D) (ci := 10) (v := .ref e0) (C := RX11) (T := TX11) (N := 15) hx hb hts k2 hown hK.1 hP 0 rfl rfl 6 (by decide) k1 (fun _ h9 => h9) rfl dX11_sentence_1 ?_
  refine oC_v (Wc := [(e0, .inr (8, [.ref ed0, .int e_ones, .ref t0])), (ed0, .inr (7, [.int y_present, .int y_steps, .ref y_word, .ref y_first, .ref y_second, .ref y_sets])), (t0, .inr (6, [.ref r_bytes, .int 0, .int r_faultKind, .int r_faultAt, .long r_letters, .int r_mostBytes, .int r_behind, .int r_at, .int r_kind, .int r_number]))]) (Wr := [(h0, .inr (10, [.ref t0, .ref l0, .ref s0, .ref y0, .ref c0, .ref b0, .ref e0, .ref n0, .ref w0, .ref i0, .ref g0, .ref a0, .ref k0, .ref z0, .int 0]))]) (va_runV (As := []) (rest := []) ⟨hx, hb, hml, hown, hts⟩ (c_X8_begin l D ca H.size e0 ed0 e_ones t0 y_present y_steps y_word y_first y_second y_sets r_bytes r_faultKind r_faultAt r_letters r_mostBytes r_behind r_at r_kind r_number) (cwV 0 hts gX11_sentence_X8_begin rfl rfl rfl (by decide +kernel) ⟨Nat.le_of_ble_eq_true rfl, Nat.le_of_ble_eq_true rfl⟩) (oPV (C := RX8) hK hP hD [2, 3, 1] rfl (by decide) 0 rfl (ci := 8) rfl rfl) rfl rfl hl.1 rfl (lv_room (Nat.le_of_ble_eq_true rfl)) dX11_sentence_4 ⟨Nat.le_of_ble_eq_true rfl, Nat.le_of_ble_eq_true rfl⟩) hP hD hS hA [2, 3, 1] [0] rfl rfl (by decide) (by decide) (fun u H locs w_2 hP hD hS => ?_)
  obtain ⟨⟩ := u
  have hP : va_P D vwCl [(h0, .inr (10, [.ref t0, .ref l0, .ref s0, .ref y0, .ref c0, .ref b0, .ref e0, .ref n0, .ref w0, .ref i0, .ref g0, .ref a0, .ref k0, .ref z0, .int 0])), (e0, .inr (8, [.ref ed0, .int 0, .ref t0])), (ed0, .inr (7, [.int 0, .int 0, .ref y_word, .ref y_first, .ref y_second, .ref y_sets])), (t0, .inr (6, [.ref r_bytes, .int 0, .int 0, .int 0, .long 0, .int 200, .int 0, .int 0, .int 1, .int r_number]))] H := hP
  have hD : va_D A [(h0, .inr (10, [.ref t0, .ref l0, .ref s0, .ref y0, .ref c0, .ref b0, .ref e0, .ref n0, .ref w0, .ref i0, .ref g0, .ref a0, .ref k0, .ref z0, .int 0])), (e0, .inr (8, [.ref ed0, .int 0, .ref t0])), (ed0, .inr (7, [.int 0, .int 0, .ref y_word, .ref y_first, .ref y_second, .ref y_sets])), (t0, .inr (6, [.ref r_bytes, .int 0, .int 0, .int 0, .long 0, .int 200, .int 0, .int 0, .int 1, .int r_number]))] := hD
  refine lv_aload_n hx hb dX11_sentence_7 rfl (lv_at hl 0 rfl) ?_
  refine va_get (D := D) (ci := 10) (v := .ref e0) (C := RX11) (T := TX11) (N := 15) hx hb hts k2 hown hK.1 hP 0 rfl rfl 6 (by decide) k1 (fun _ h9 => h9) rfl dX11_sentence_8 ?_
  refine lv_aload_n hx hb dX11_sentence_11 rfl (lv_at hl 0 rfl) ?_
  refine va_get (D := D) (ci := 10) (v := .ref l0) (C := RX11) (T := TX11) (N := 15) hx hb hts k2 hown hK.1 hP 0 rfl rfl 1 (by decide) k3 (fun _ h9 => h9) rfl dX11_sentence_12 ?_
  refine lv_iconst (v := 1) hx hb dX11_sentence_15 (by decide) ?_
  refine oC_v (Wc := [(e0, .inr (8, [.ref ed0, .int 0, .ref t0])), (t0, .inr (6, [.ref r_bytes, .int 0, .int 0, .int 0, .long 0, .int 200, .int 0, .int 0, .int 1, .int r_number]))]) (Wr := [(h0, .inr (10, [.ref t0, .ref l0, .ref s0, .ref y0, .ref c0, .ref b0, .ref e0, .ref n0, .ref w0, .ref i0, .ref g0, .ref a0, .ref k0, .ref z0, .int 0])), (ed0, .inr (7, [.int 0, .int 0, .ref y_word, .ref y_first, .ref y_second, .ref y_sets]))]) (va_runV (As := [.ref l0, .int 1]) (rest := []) ⟨hx, hb, hml, hown, hts⟩ (c_readCond l D ca ad wt H.size e0 l0 ed0 0 t0 r_bytes 0 0 0 200 0 r_number) (cwV 2 hts gX11_sentence_X8_readCond rfl rfl rfl (by decide +kernel) ⟨Nat.le_of_ble_eq_true rfl, Nat.le_of_ble_eq_true rfl⟩) (sPV (C := RX8) hZ hS hA hK hP hD [1, 3] rfl (by decide) 0 rfl (ci := 8) rfl rfl) rfl rfl hl.1 rfl (lv_room (Nat.le_of_ble_eq_true rfl)) dX11_sentence_16 ⟨Nat.le_of_ble_eq_true rfl, Nat.le_of_ble_eq_true rfl⟩) hP hD hS hA [1, 3] [0, 2] rfl rfl (by decide) (by decide) (fun u H locs w_4 hP hD hS => ?_)
  obtain ⟨⟩ := u
  have hP : va_P D vwCl [(h0, .inr (10, [.ref t0, .ref l0, .ref s0, .ref y0, .ref c0, .ref b0, .ref e0, .ref n0, .ref w0, .ref i0, .ref g0, .ref a0, .ref k0, .ref z0, .int 0])), (ed0, .inr (7, [.int 0, .int 0, .ref y_word, .ref y_first, .ref y_second, .ref y_sets])), (e0, .inr (8, [.ref ed0, .int 0, .ref t0])), (t0, .inr (6, [.ref r_bytes, .int 0, .int 1, .int 0, .long 0, .int 200, .int 0, .int 0, .int 0, .int r_number]))] H := hP
  have hD : va_D A [(h0, .inr (10, [.ref t0, .ref l0, .ref s0, .ref y0, .ref c0, .ref b0, .ref e0, .ref n0, .ref w0, .ref i0, .ref g0, .ref a0, .ref k0, .ref z0, .int 0])), (ed0, .inr (7, [.int 0, .int 0, .ref y_word, .ref y_first, .ref y_second, .ref y_sets])), (e0, .inr (8, [.ref ed0, .int 0, .ref t0])), (t0, .inr (6, [.ref r_bytes, .int 0, .int 1, .int 0, .long 0, .int 200, .int 0, .int 0, .int 0, .int r_number]))] := hD
  refine lv_aload_n hx hb dX11_sentence_19 rfl (lv_at hl 0 rfl) ?_
  refine va_get (D := D) (ci := 10) (v := .ref e0) (C := RX11) (T := TX11) (N := 15) hx hb hts k2 hown hK.1 hP 0 rfl rfl 6 (by decide) k1 (fun _ h9 => h9) rfl dX11_sentence_20 ?_
  refine oC_v (Wc := [(e0, .inr (8, [.ref ed0, .int 0, .ref t0])), (ed0, .inr (7, [.int 0, .int 0, .ref y_word, .ref y_first, .ref y_second, .ref y_sets])), (t0, .inr (6, [.ref r_bytes, .int 0, .int 1, .int 0, .long 0, .int 200, .int 0, .int 0, .int 0, .int r_number]))]) (Wr := [(h0, .inr (10, [.ref t0, .ref l0, .ref s0, .ref y0, .ref c0, .ref b0, .ref e0, .ref n0, .ref w0, .ref i0, .ref g0, .ref a0, .ref k0, .ref z0, .int 0]))]) (va_runV (As := []) (rest := []) ⟨hx, hb, hml, hown, hts⟩ (c_X8_finish l D ca H.size e0 ed0 0 t0 0 0 y_word y_first y_second y_sets r_bytes 0 0 0 200 0 0 0 r_number) (cwV 0 hts gX11_sentence_X8_finish rfl rfl rfl (by decide +kernel) ⟨Nat.le_of_ble_eq_true rfl, Nat.le_of_ble_eq_true rfl⟩) (oPV (C := RX8) hK hP hD [2, 1, 3] rfl (by decide) 0 rfl (ci := 8) rfl rfl) rfl rfl hl.1 rfl (lv_room (Nat.le_of_ble_eq_true rfl)) dX11_sentence_23 ⟨Nat.le_of_ble_eq_true rfl, Nat.le_of_ble_eq_true rfl⟩) hP hD hS hA [2, 1, 3] [0] rfl rfl (by decide) (by decide) (fun u H locs w_6 hP hD hS => ?_)
  obtain ⟨⟩ := u
  have hP : va_P D vwCl [(h0, .inr (10, [.ref t0, .ref l0, .ref s0, .ref y0, .ref c0, .ref b0, .ref e0, .ref n0, .ref w0, .ref i0, .ref g0, .ref a0, .ref k0, .ref z0, .int 0])), (e0, .inr (8, [.ref ed0, .int 0, .ref t0])), (ed0, .inr (7, [.int 1, .int 0, .ref y_word, .ref y_first, .ref y_second, .ref y_sets])), (t0, .inr (6, [.ref r_bytes, .int 0, .int 1, .int 0, .long 0, .int 200, .int 0, .int 0, .int 0, .int r_number]))] H := hP
  have hD : va_D A [(h0, .inr (10, [.ref t0, .ref l0, .ref s0, .ref y0, .ref c0, .ref b0, .ref e0, .ref n0, .ref w0, .ref i0, .ref g0, .ref a0, .ref k0, .ref z0, .int 0])), (e0, .inr (8, [.ref ed0, .int 0, .ref t0])), (ed0, .inr (7, [.int 1, .int 0, .ref y_word, .ref y_first, .ref y_second, .ref y_sets])), (t0, .inr (6, [.ref r_bytes, .int 0, .int 1, .int 0, .long 0, .int 200, .int 0, .int 0, .int 0, .int r_number]))] := hD
  refine lv_aload_n hx hb dX11_sentence_26 rfl (lv_at hl 0 rfl) ?_
  refine va_get (D := D) (ci := 10) (v := .ref t0) (C := RX11) (T := TX11) (N := 15) hx hb hts k2 hown hK.1 hP 0 rfl rfl 0 (by decide) k4 (fun _ h9 => h9) rfl dX11_sentence_27 ?_
  refine lv_iconst (v := 0) hx hb dX11_sentence_30 (by decide) ?_
  refine va_put (D := D) (ci := 6) (v := .int 0) (ty := .int) (C := RX6) (T := TX6) (N := 10) hx hb hts k6 tyX6 tyX6_ok nmX6 hown hK.1 hP hD hS 3 rfl rfl 1 (by decide) k5 (fun _ h9 => h9) rfl (by decide +kernel) rfl rfl (Nat.le_of_ble_eq_true rfl) dX11_sentence_31 (fun H locs hP hD hS => ?_)
  have hP : va_P D vwCl [(h0, .inr (10, [.ref t0, .ref l0, .ref s0, .ref y0, .ref c0, .ref b0, .ref e0, .ref n0, .ref w0, .ref i0, .ref g0, .ref a0, .ref k0, .ref z0, .int 0])), (e0, .inr (8, [.ref ed0, .int 0, .ref t0])), (ed0, .inr (7, [.int 1, .int 0, .ref y_word, .ref y_first, .ref y_second, .ref y_sets])), (t0, .inr (6, [.ref r_bytes, .int 0, .int 1, .int 0, .long 0, .int 200, .int 0, .int 0, .int 0, .int r_number]))] H := hP
  have hD : va_D A [(h0, .inr (10, [.ref t0, .ref l0, .ref s0, .ref y0, .ref c0, .ref b0, .ref e0, .ref n0, .ref w0, .ref i0, .ref g0, .ref a0, .ref k0, .ref z0, .int 0])), (e0, .inr (8, [.ref ed0, .int 0, .ref t0])), (ed0, .inr (7, [.int 1, .int 0, .ref y_word, .ref y_first, .ref y_second, .ref y_sets])), (t0, .inr (6, [.ref r_bytes, .int 0, .int 1, .int 0, .long 0, .int 200, .int 0, .int 0, .int 0, .int r_number]))] := hD
  refine lv_aload_n hx hb dX11_sentence_34 rfl (lv_at hl 0 rfl) ?_
  refine va_get (D := D) (ci := 10) (v := .ref t0) (C := RX11) (T := TX11) (N := 15) hx hb hts k2 hown hK.1 hP 0 rfl rfl 0 (by decide) k4 (fun _ h9 => h9) rfl dX11_sentence_35 ?_
  refine oC_i (Wc := [(t0, .inr (6, [.ref r_bytes, .int 0, .int 1, .int 0, .long 0, .int 200, .int 0, .int 0, .int 0, .int r_number]))]) (Wr := [(h0, .inr (10, [.ref t0, .ref l0, .ref s0, .ref y0, .ref c0, .ref b0, .ref e0, .ref n0, .ref w0, .ref i0, .ref g0, .ref a0, .ref k0, .ref z0, .int 0])), (e0, .inr (8, [.ref ed0, .int 0, .ref t0])), (ed0, .inr (7, [.int 1, .int 0, .ref y_word, .ref y_first, .ref y_second, .ref y_sets]))]) (va_runV (As := []) (rest := []) ⟨hx, hb, hml, hown, hts⟩ (c_isBroken1 l D ca H.size t0 r_bytes 0 0 0 200 0 0 0 r_number) (cwV 0 hts gX11_sentence_X6_isBroken rfl rfl rfl (by decide +kernel) ⟨Nat.le_of_ble_eq_true rfl, Nat.le_of_ble_eq_true rfl⟩) (oPV (C := RX6) hK hP hD [3] rfl (by decide) 0 rfl (ci := 6) rfl rfl) rfl rfl hl.1 rfl (lv_room (Nat.le_of_ble_eq_true rfl)) dX11_sentence_38 ⟨Nat.le_of_ble_eq_true rfl, Nat.le_of_ble_eq_true rfl⟩) hP hD hS hA [3] [0, 1, 2] rfl rfl (by decide) (by decide) (fun r_7 u H locs w_8 hP hD hS => ?_)
  obtain ⟨⟩ := u
  try dsimp only at w_8
  subst w_8
  have hP : va_P D vwCl [(h0, .inr (10, [.ref t0, .ref l0, .ref s0, .ref y0, .ref c0, .ref b0, .ref e0, .ref n0, .ref w0, .ref i0, .ref g0, .ref a0, .ref k0, .ref z0, .int 0])), (e0, .inr (8, [.ref ed0, .int 0, .ref t0])), (ed0, .inr (7, [.int 1, .int 0, .ref y_word, .ref y_first, .ref y_second, .ref y_sets])), (t0, .inr (6, [.ref r_bytes, .int 0, .int 1, .int 0, .long 0, .int 200, .int 0, .int 0, .int 0, .int r_number]))] H := hP
  have hD : va_D A [(h0, .inr (10, [.ref t0, .ref l0, .ref s0, .ref y0, .ref c0, .ref b0, .ref e0, .ref n0, .ref w0, .ref i0, .ref g0, .ref a0, .ref k0, .ref z0, .int 0])), (e0, .inr (8, [.ref ed0, .int 0, .ref t0])), (ed0, .inr (7, [.int 1, .int 0, .ref y_word, .ref y_first, .ref y_second, .ref y_sets])), (t0, .inr (6, [.ref r_bytes, .int 0, .int 1, .int 0, .long 0, .int 200, .int 0, .int 0, .int 0, .int r_number]))] := hD
  refine lv_if_eq (tgt := 54) hx hb dX11_sentence_41 (by decide) (fun c => absurd c (by decide)) (fun _ => ?_)
  refine lv_iconst (v := (-1)) hx hb dX11_sentence_44 (by decide) ?_
  refine lv_aload_n hx hb dX11_sentence_45 rfl (lv_at hl 0 rfl) ?_
  refine va_get (D := D) (ci := 10) (v := .ref t0) (C := RX11) (T := TX11) (N := 15) hx hb hts k2 hown hK.1 hP 0 rfl rfl 0 (by decide) k4 (fun _ h9 => h9) rfl dX11_sentence_46 ?_
  refine va_get (D := D) (ci := 6) (v := .int 0) (C := RX6) (T := TX6) (N := 10) hx hb hts k6 hown hK.1 hP 3 rfl rfl 3 (by decide) k7 (fun _ h9 => h9) rfl dX11_sentence_49 ?_
  refine lv_isub hx hb dX11_sentence_52 ?_
  refine oti (-1) (by decide) ?_
  exact oE_i hx hb hr rfl hlocks hP hD hS () [] rfl (by decide) rfl (Nat.le_of_ble_eq_true rfl) (Nat.le_of_ble_eq_true rfl) dX11_sentence_53
