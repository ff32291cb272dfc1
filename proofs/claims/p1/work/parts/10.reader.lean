theorem dX6_isBroken_0 : decode cX6_isBroken 0 = .ok (.aload_n 0, 1) := by decide +kernel
theorem dX6_isBroken_1 : decode cX6_isBroken 1 = .ok (.getfield 25, 3) := by decide +kernel
theorem dX6_isBroken_4 : decode cX6_isBroken 4 = .ok (.ifCond .eq 7, 3) := by decide +kernel
theorem dX6_isBroken_11 : decode cX6_isBroken 11 = .ok (.iconst 0, 1) := by decide +kernel
theorem dX6_isBroken_12 : decode cX6_isBroken 12 = .ok (.ireturn, 1) := by decide +kernel
set_option maxHeartbeats 4000000 in
set_option maxRecDepth 100000 in
theorem c_isBroken (l : Launch) (D : va_G) (ca : Nat → ClassId) (sz : Nat) (h0 : Nat) (r_bytes : Nat) (r_length : Int32) (r_faultAt : Int32) (r_letters : Int64) (r_mostBytes : Int32) (r_behind : Int32) (r_at : Int32) (r_kind : Int32) (r_number : Int32)  : oMet l yX6_isBroken wsX6_isBroken ({ frames := 0, cells := 0, slots := 0, locals := 0 } : Room) [.ref h0] D ca sz [(h0, .inr (6, [.ref r_bytes, .int r_length, .int 0, .int r_faultAt, .long r_letters, .int r_mostBytes, .int r_behind, .int r_at, .int r_kind, .int r_number]))] (oQi D (fun (r : Int32) (u : Unit) => r = 0) (fun (u : Unit) => [(h0, .inr (6, [.ref r_bytes, .int r_length, .int 0, .int r_faultAt, .long r_letters, .int r_mostBytes, .int r_behind, .int r_at, .int r_kind, .int r_number]))])) 0 0 := by
  refine oM (cc := cX6_isBroken) (maxL := 1) (ret := (some .boolean)) (by decide) rfl (Nat.le_of_ble_eq_true rfl) [(0, .ref h0)] rfl ?_
  intro p e s m below meth c A H locs ls hx hb hr hml hts hown hlocks hin hK hP hD hA hS hl
  have hown : s.vm.findClass RX6 = some m.cls := hown
  have k1 := hts (.fieldLink RX6 25 "LidCourt$Reader" "faultKind" "I") (by decide +kernel)
  have k2 : ∀ w ∈ wsX60, w ∈ wsX6_isBroken := fun _ h => List.mem_cons_of_mem _ (List.mem_append_right _ h)
  refine lv_aload_n hx hb dX6_isBroken_0 rfl (lv_at hl 0 rfl) ?_
  refine va_get (D := D) (ci := 6) (v := .int 0) (C := RX6) (T := TX6) (N := 10) hx hb hts k2 hown hK.1 hP 0 rfl rfl 2 (by decide) k1 (fun _ h9 => h9) rfl dX6_isBroken_1 ?_
  refine lv_if_eq (tgt := 11) hx hb dX6_isBroken_4 (by decide) (fun _ => ?_) (fun c => absurd (by decide) c)
  refine lv_iconst (v := 0) hx hb dX6_isBroken_11 (by decide) ?_
  exact oE_i hx hb hr (by decide) hlocks hP hD hS () [0] rfl (by decide) rfl (Nat.le_of_ble_eq_true rfl) (Nat.le_of_ble_eq_true rfl) dX6_isBroken_12
theorem dX6_advance_0 : decode cX6_advance 0 = .ok (.aload_n 0, 1) := by decide +kernel
theorem dX6_advance_1 : decode cX6_advance 1 = .ok (.invokevirtual 34, 3) := by decide +kernel
theorem dX6_advance_4 : decode cX6_advance 4 = .ok (.ifCond .eq 4, 3) := by decide +kernel
theorem dX6_advance_8 : decode cX6_advance 8 = .ok (.aload_n 0, 1) := by decide +kernel
theorem dX6_advance_9 : decode cX6_advance 9 = .ok (.getfield 15, 3) := by decide +kernel
theorem dX6_advance_12 : decode cX6_advance 12 = .ok (.aload_n 0, 1) := by decide +kernel
theorem dX6_advance_13 : decode cX6_advance 13 = .ok (.getfield 19, 3) := by decide +kernel
theorem dX6_advance_16 : decode cX6_advance 16 = .ok (.invokestatic 38, 3) := by decide +kernel
theorem dX6_advance_19 : decode cX6_advance 19 = .ok (.istore_n 1, 1) := by decide +kernel
theorem dX6_advance_20 : decode cX6_advance 20 = .ok (.aload_n 0, 1) := by decide +kernel
theorem dX6_advance_21 : decode cX6_advance 21 = .ok (.getfield 22, 3) := by decide +kernel
theorem dX6_advance_24 : decode cX6_advance 24 = .ok (.iload_n 1, 1) := by decide +kernel
theorem dX6_advance_25 : decode cX6_advance 25 = .ok (.if_icmp .ge 44, 3) := by decide +kernel
theorem dX6_advance_69 : decode cX6_advance 69 = .ok (.aload_n 0, 1) := by decide +kernel
theorem dX6_advance_70 : decode cX6_advance 70 = .ok (.lconst 0, 1) := by decide +kernel
theorem dX6_advance_71 : decode cX6_advance 71 = .ok (.putfield 44, 3) := by decide +kernel
theorem dX6_advance_74 : decode cX6_advance 74 = .ok (.aload_n 0, 1) := by decide +kernel
theorem dX6_advance_75 : decode cX6_advance 75 = .ok (.getfield 22, 3) := by decide +kernel
theorem dX6_advance_78 : decode cX6_advance 78 = .ok (.iload_n 1, 1) := by decide +kernel
theorem dX6_advance_79 : decode cX6_advance 79 = .ok (.if_icmp .lt 29, 3) := by decide +kernel
theorem dX6_advance_82 : decode cX6_advance 82 = .ok (.aload_n 0, 1) := by decide +kernel
theorem dX6_advance_83 : decode cX6_advance 83 = .ok (.iload_n 1, 1) := by decide +kernel
theorem dX6_advance_84 : decode cX6_advance 84 = .ok (.putfield 48, 3) := by decide +kernel
theorem dX6_advance_87 : decode cX6_advance 87 = .ok (.aload_n 0, 1) := by decide +kernel
theorem dX6_advance_88 : decode cX6_advance 88 = .ok (.aload_n 0, 1) := by decide +kernel
theorem dX6_advance_89 : decode cX6_advance 89 = .ok (.getfield 15, 3) := by decide +kernel
theorem dX6_advance_92 : decode cX6_advance 92 = .ok (.aload_n 0, 1) := by decide +kernel
theorem dX6_advance_93 : decode cX6_advance 93 = .ok (.getfield 19, 3) := by decide +kernel
theorem dX6_advance_96 : decode cX6_advance 96 = .ok (.if_icmp .le 7, 3) := by decide +kernel
theorem dX6_advance_103 : decode cX6_advance 103 = .ok (.iconst 1, 1) := by decide +kernel
theorem dX6_advance_104 : decode cX6_advance 104 = .ok (.putfield 51, 3) := by decide +kernel
theorem dX6_advance_107 : decode cX6_advance 107 = .ok (.return_, 1) := by decide +kernel
set_option maxRecDepth 20000 in
theorem ggX6_advance_X6_isBroken : GoodIn wsX6_advance wsX6_isBroken := goodIn_r _ [16, 17, 27, 28, 29, 30, 31, 32, 33, 34, 35, 36] rfl (by decide +kernel)
set_option maxRecDepth 20000 in
theorem gX6_advance_X6_isBroken : GoodIn wsX6_advance (wsV RX6 34 RX6 yX6_isBroken wsX6_isBroken) := goodIn_app (goodIn_of _ (by decide +kernel)) ggX6_advance_X6_isBroken
set_option maxHeartbeats 4000000 in
set_option maxRecDepth 100000 in
theorem c_advance_900 (l : Launch) (D : va_G) (ca : Nat → ClassId) (sz : Nat) (h0 : Nat) (r_bytes : Nat) (r_faultAt : Int32) (r_letters : Int64) (r_at : Int32) (r_kind : Int32) (r_number : Int32)  : oMet l yX6_advance wsX6_advance ({ frames := 1, cells := 0, slots := 0, locals := 20 } : Room) [.ref h0] D ca sz [(h0, .inr (6, [.ref r_bytes, .int 0, .int 0, .int r_faultAt, .long r_letters, .int 900, .int 0, .int r_at, .int r_kind, .int r_number]))] (oQv D (fun (u : Unit) => True) (fun (u : Unit) => [(h0, .inr (6, [.ref r_bytes, .int 0, .int 0, .int r_faultAt, .long 0, .int 900, .int 0, .int 0, .int 1, .int r_number]))])) 0 0 := by
  refine oM (cc := cX6_advance) (maxL := 2) (ret := none) (by decide) rfl (Nat.le_of_ble_eq_true rfl) [(0, .ref h0)] rfl ?_
  intro p e s m below meth c A H locs ls hx hb hr hml hts hown hlocks hin hK hP hD hA hS hl
  have hown : s.vm.findClass RX6 = some m.cls := hown
  have k1 := hts (.fieldLink RX6 15 "LidCourt$Reader" "length" "I") (by decide +kernel)
  have k2 : ∀ w ∈ wsX60, w ∈ wsX6_advance := fun _ h => List.mem_cons_of_mem _ (List.mem_append_right _ h)
  have k3 := hts (.fieldLink RX6 19 "LidCourt$Reader" "mostBytes" "I") (by decide +kernel)
  have k4 := hts (.methodLink RX6 38 Lib.Math.min.name) (by decide +kernel)
  have k5 := hts (.static Lib.Math.min.name) (by decide +kernel)
  have k6 := hts (.initialized "java/lang/Math") (by decide +kernel)
  have k7 := hts (.code Lib.Math.min.name Lib.Math.min.code 2 (some .int)) (by decide +kernel)
  have k8 := hts (.fieldLink RX6 22 "LidCourt$Reader" "behind" "I") (by decide +kernel)
  have k9 := hts (.fieldLink RX6 44 "LidCourt$Reader" "letters" "J") (by decide +kernel)
  have k10 := hts (.fieldLink RX6 48 "LidCourt$Reader" "at" "I") (by decide +kernel)
  have k11 := hts (.fieldLink RX6 51 "LidCourt$Reader" "kind" "I") (by decide +kernel)
  refine lv_aload_n hx hb dX6_advance_0 rfl (lv_at hl 0 rfl) ?_
  refine oC_i (Wc := [(h0, .inr (6, [.ref r_bytes, .int 0, .int 0, .int r_faultAt, .long r_letters, .int 900, .int 0, .int r_at, .int r_kind, .int r_number]))]) (Wr := []) (va_runV (As := []) (rest := []) ⟨hx, hb, hml, hown, hts⟩ (c_isBroken l D ca H.size h0 r_bytes 0 r_faultAt r_letters 900 0 r_at r_kind r_number) (cwV 0 hts gX6_advance_X6_isBroken rfl rfl rfl (by decide +kernel) ⟨Nat.le_of_ble_eq_true rfl, Nat.le_of_ble_eq_true rfl⟩) (oPV (C := RX6) hK hP hD [0] rfl (by decide) 0 rfl (ci := 6) rfl rfl) rfl rfl hl.1 rfl (lv_room (Nat.le_of_ble_eq_true rfl)) dX6_advance_1 ⟨Nat.le_of_ble_eq_true rfl, Nat.le_of_ble_eq_true rfl⟩) hP hD hS hA [0] [] rfl rfl (by decide) (by decide) (fun r_1 u H locs w_2 hP hD hS => ?_)
  obtain ⟨⟩ := u
  try dsimp only at w_2
  subst w_2
  have hP : va_P D vwCl [(h0, .inr (6, [.ref r_bytes, .int 0, .int 0, .int r_faultAt, .long r_letters, .int 900, .int 0, .int r_at, .int r_kind, .int r_number]))] H := hP
  have hD : va_D A [(h0, .inr (6, [.ref r_bytes, .int 0, .int 0, .int r_faultAt, .long r_letters, .int 900, .int 0, .int r_at, .int r_kind, .int r_number]))] := hD
  refine lv_if_eq (tgt := 8) hx hb dX6_advance_4 (by decide) (fun _ => ?_) (fun c => absurd (by decide) c)
  refine lv_aload_n hx hb dX6_advance_8 rfl (lv_at hl 0 rfl) ?_
  refine va_get (D := D) (ci := 6) (v := .int 0) (C := RX6) (T := TX6) (N := 10) hx hb hts k2 hown hK.1 hP 0 rfl rfl 1 (by decide) k1 (fun _ h9 => h9) rfl dX6_advance_9 ?_
  refine lv_aload_n hx hb dX6_advance_12 rfl (lv_at hl 0 rfl) ?_
  refine va_get (D := D) (ci := 6) (v := .int 900) (C := RX6) (T := TX6) (N := 10) hx hb hts k2 hown hK.1 hP 0 rfl rfl 5 (by decide) k3 (fun _ h9 => h9) rfl dX6_advance_13 ?_
  refine va_mmin hx hb (by rw [hml]; exact hl.1.symm) hown k4 k5 k6 k7 (Nat.le_of_ble_eq_true rfl) (Nat.le_of_ble_eq_true rfl) (Nat.le_of_ble_eq_true rfl) (Nat.le_of_ble_eq_true rfl) dX6_advance_16 ?_
  refine oti 0 (by decide) ?_
  refine lv_istore_n (lv' := [(1, .int 0), (0, .ref h0)]) hx hb dX6_advance_19 rfl hl (by decide) rfl (fun ls hl => ?_)
  refine lv_aload_n hx hb dX6_advance_20 rfl (lv_at hl 1 rfl) ?_
  refine va_get (D := D) (ci := 6) (v := .int 0) (C := RX6) (T := TX6) (N := 10) hx hb hts k2 hown hK.1 hP 0 rfl rfl 6 (by decide) k8 (fun _ h9 => h9) rfl dX6_advance_21 ?_
  refine lv_iload_n hx hb dX6_advance_24 rfl (lv_at hl 0 rfl) ?_
  refine lv_icmp_ge (tgt := 69) hx hb dX6_advance_25 (by decide) (fun _ => ?_) (fun c => absurd (by decide) c)
  refine lv_aload_n hx hb dX6_advance_69 rfl (lv_at hl 1 rfl) ?_
  refine lv_lconst (v := 0) hx hb dX6_advance_70 (by decide) ?_
  refine va_put (D := D) (ci := 6) (v := .long 0) (ty := .long) (C := RX6) (T := TX6) (N := 10) hx hb hts k2 tyX6 tyX6_ok nmX6 hown hK.1 hP hD hS 0 rfl rfl 4 (by decide) k9 (fun _ h9 => h9) rfl (by decide +kernel) rfl rfl (Nat.le_of_ble_eq_true rfl) dX6_advance_71 (fun H locs hP hD hS => ?_)
  have hP : va_P D vwCl [(h0, .inr (6, [.ref r_bytes, .int 0, .int 0, .int r_faultAt, .long 0, .int 900, .int 0, .int r_at, .int r_kind, .int r_number]))] H := hP
  have hD : va_D A [(h0, .inr (6, [.ref r_bytes, .int 0, .int 0, .int r_faultAt, .long 0, .int 900, .int 0, .int r_at, .int r_kind, .int r_number]))] := hD
  refine lv_aload_n hx hb dX6_advance_74 rfl (lv_at hl 1 rfl) ?_
  refine va_get (D := D) (ci := 6) (v := .int 0) (C := RX6) (T := TX6) (N := 10) hx hb hts k2 hown hK.1 hP 0 rfl rfl 6 (by decide) k8 (fun _ h9 => h9) rfl dX6_advance_75 ?_
  refine lv_iload_n hx hb dX6_advance_78 rfl (lv_at hl 0 rfl) ?_
  refine lv_icmp_lt (tgt := 108) hx hb dX6_advance_79 (by decide) (fun c => absurd c (by decide)) (fun _ => ?_)
  refine lv_aload_n hx hb dX6_advance_82 rfl (lv_at hl 1 rfl) ?_
  refine lv_iload_n hx hb dX6_advance_83 rfl (lv_at hl 0 rfl) ?_
  refine va_put (D := D) (ci := 6) (v := .int 0) (ty := .int) (C := RX6) (T := TX6) (N := 10) hx hb hts k2 tyX6 tyX6_ok nmX6 hown hK.1 hP hD hS 0 rfl rfl 7 (by decide) k10 (fun _ h9 => h9) rfl (by decide +kernel) rfl rfl (Nat.le_of_ble_eq_true rfl) dX6_advance_84 (fun H locs hP hD hS => ?_)
  have hP : va_P D vwCl [(h0, .inr (6, [.ref r_bytes, .int 0, .int 0, .int r_faultAt, .long 0, .int 900, .int 0, .int 0, .int r_kind, .int r_number]))] H := hP
  have hD : va_D A [(h0, .inr (6, [.ref r_bytes, .int 0, .int 0, .int r_faultAt, .long 0, .int 900, .int 0, .int 0, .int r_kind, .int r_number]))] := hD
  refine lv_aload_n hx hb dX6_advance_87 rfl (lv_at hl 1 rfl) ?_
  refine lv_aload_n hx hb dX6_advance_88 rfl (lv_at hl 1 rfl) ?_
  refine va_get (D := D) (ci := 6) (v := .int 0) (C := RX6) (T := TX6) (N := 10) hx hb hts k2 hown hK.1 hP 0 rfl rfl 1 (by decide) k1 (fun _ h9 => h9) rfl dX6_advance_89 ?_
  refine lv_aload_n hx hb dX6_advance_92 rfl (lv_at hl 1 rfl) ?_
  refine va_get (D := D) (ci := 6) (v := .int 900) (C := RX6) (T := TX6) (N := 10) hx hb hts k2 hown hK.1 hP 0 rfl rfl 5 (by decide) k3 (fun _ h9 => h9) rfl dX6_advance_93 ?_
  refine lv_icmp_le (tgt := 103) hx hb dX6_advance_96 (by decide) (fun _ => ?_) (fun c => absurd (by decide) c)
  refine lv_iconst (v := 1) hx hb dX6_advance_103 (by decide) ?_
  refine va_put (D := D) (ci := 6) (v := .int 1) (ty := .int) (C := RX6) (T := TX6) (N := 10) hx hb hts k2 tyX6 tyX6_ok nmX6 hown hK.1 hP hD hS 0 rfl rfl 8 (by decide) k11 (fun _ h9 => h9) rfl (by decide +kernel) rfl rfl (Nat.le_of_ble_eq_true rfl) dX6_advance_104 (fun H locs hP hD hS => ?_)
  have hP : va_P D vwCl [(h0, .inr (6, [.ref r_bytes, .int 0, .int 0, .int r_faultAt, .long 0, .int 900, .int 0, .int 0, .int 1, .int r_number]))] H := hP
  have hD : va_D A [(h0, .inr (6, [.ref r_bytes, .int 0, .int 0, .int r_faultAt, .long 0, .int 900, .int 0, .int 0, .int 1, .int r_number]))] := hD
  exact oE_v hx hb hr hlocks hP hD hS () [0] rfl (by decide) trivial (Nat.le_of_ble_eq_true rfl) (Nat.le_of_ble_eq_true rfl) dX6_advance_107
theorem dX6_begin_0 : decode cX6_begin 0 = .ok (.aload_n 0, 1) := by decide +kernel
theorem dX6_begin_1 : decode cX6_begin 1 = .ok (.iload_n 1, 1) := by decide +kernel
theorem dX6_begin_2 : decode cX6_begin 2 = .ok (.putfield 19, 3) := by decide +kernel
theorem dX6_begin_5 : decode cX6_begin 5 = .ok (.aload_n 0, 1) := by decide +kernel
theorem dX6_begin_6 : decode cX6_begin 6 = .ok (.iconst 0, 1) := by decide +kernel
theorem dX6_begin_7 : decode cX6_begin 7 = .ok (.putfield 22, 3) := by decide +kernel
theorem dX6_begin_10 : decode cX6_begin 10 = .ok (.aload_n 0, 1) := by decide +kernel
theorem dX6_begin_11 : decode cX6_begin 11 = .ok (.iconst 0, 1) := by decide +kernel
theorem dX6_begin_12 : decode cX6_begin 12 = .ok (.putfield 25, 3) := by decide +kernel
theorem dX6_begin_15 : decode cX6_begin 15 = .ok (.aload_n 0, 1) := by decide +kernel
theorem dX6_begin_16 : decode cX6_begin 16 = .ok (.iconst 0, 1) := by decide +kernel
theorem dX6_begin_17 : decode cX6_begin 17 = .ok (.putfield 28, 3) := by decide +kernel
theorem dX6_begin_20 : decode cX6_begin 20 = .ok (.aload_n 0, 1) := by decide +kernel
theorem dX6_begin_21 : decode cX6_begin 21 = .ok (.invokevirtual 31, 3) := by decide +kernel
theorem dX6_begin_24 : decode cX6_begin 24 = .ok (.return_, 1) := by decide +kernel
set_option maxRecDepth 20000 in
theorem ggX6_begin_X6_advance : GoodIn wsX6_begin wsX6_advance := goodIn_r _ [9, 10, 1, 11, 12, 13, 14, 2, 15, 16, 17, 18, 19, 20, 21, 8, 22, 3, 23, 24, 25, 26, 27, 28, 29, 30, 31, 32, 33, 34, 35, 36, 37, 38, 39, 40, 41] rfl (by decide +kernel)
set_option maxRecDepth 20000 in
theorem gX6_begin_X6_advance : GoodIn wsX6_begin (wsV RX6 31 RX6 yX6_advance wsX6_advance) := goodIn_app (goodIn_of _ (by decide +kernel)) ggX6_begin_X6_advance
set_option maxHeartbeats 4000000 in
set_option maxRecDepth 100000 in
theorem c_begin_900 (l : Launch) (D : va_G) (ca : Nat → ClassId) (sz : Nat) (h0 : Nat) (r_bytes : Nat) (r_faultKind : Int32) (r_faultAt : Int32) (r_letters : Int64) (r_mostBytes : Int32) (r_behind : Int32) (r_at : Int32) (r_kind : Int32) (r_number : Int32)  : oMet l yX6_begin wsX6_begin ({ frames := 2, cells := 0, slots := 0, locals := 41 } : Room) [.ref h0, .int 900] D ca sz [(h0, .inr (6, [.ref r_bytes, .int 0, .int r_faultKind, .int r_faultAt, .long r_letters, .int r_mostBytes, .int r_behind, .int r_at, .int r_kind, .int r_number]))] (oQv D (fun (u : Unit) => True) (fun (u : Unit) => [(h0, .inr (6, [.ref r_bytes, .int 0, .int 0, .int 0, .long 0, .int 900, .int 0, .int 0, .int 1, .int r_number]))])) 0 0 := by
  refine oM (cc := cX6_begin) (maxL := 2) (ret := none) (by decide) rfl (Nat.le_of_ble_eq_true rfl) [(0, .ref h0), (1, .int 900)] rfl ?_
  intro p e s m below meth c A H locs ls hx hb hr hml hts hown hlocks hin hK hP hD hA hS hl
  have hown : s.vm.findClass RX6 = some m.cls := hown
  have k1 := hts (.fieldLink RX6 19 "LidCourt$Reader" "mostBytes" "I") (by decide +kernel)
  have k2 : ∀ w ∈ wsX60, w ∈ wsX6_begin := fun _ h => List.mem_cons_of_mem _ (List.mem_append_right _ h)
  have k3 := hts (.fieldLink RX6 22 "LidCourt$Reader" "behind" "I") (by decide +kernel)
  have k4 := hts (.fieldLink RX6 25 "LidCourt$Reader" "faultKind" "I") (by decide +kernel)
  have k5 := hts (.fieldLink RX6 28 "LidCourt$Reader" "faultAt" "I") (by decide +kernel)
  refine lv_aload_n hx hb dX6_begin_0 rfl (lv_at hl 0 rfl) ?_
  refine lv_iload_n hx hb dX6_begin_1 rfl (lv_at hl 1 rfl) ?_
  refine va_put (D := D) (ci := 6) (v := .int 900) (ty := .int) (C := RX6) (T := TX6) (N := 10) hx hb hts k2 tyX6 tyX6_ok nmX6 hown hK.1 hP hD hS 0 rfl rfl 5 (by decide) k1 (fun _ h9 => h9) rfl (by decide +kernel) rfl rfl (Nat.le_of_ble_eq_true rfl) dX6_begin_2 (fun H locs hP hD hS => ?_)
  have hP : va_P D vwCl [(h0, .inr (6, [.ref r_bytes, .int 0, .int r_faultKind, .int r_faultAt, .long r_letters, .int 900, .int r_behind, .int r_at, .int r_kind, .int r_number]))] H := hP
  have hD : va_D A [(h0, .inr (6, [.ref r_bytes, .int 0, .int r_faultKind, .int r_faultAt, .long r_letters, .int 900, .int r_behind, .int r_at, .int r_kind, .int r_number]))] := hD
  refine lv_aload_n hx hb dX6_begin_5 rfl (lv_at hl 0 rfl) ?_
  refine lv_iconst (v := 0) hx hb dX6_begin_6 (by decide) ?_
  refine va_put (D := D) (ci := 6) (v := .int 0) (ty := .int) (C := RX6) (T := TX6) (N := 10) hx hb hts k2 tyX6 tyX6_ok nmX6 hown hK.1 hP hD hS 0 rfl rfl 6 (by decide) k3 (fun _ h9 => h9) rfl (by decide +kernel) rfl rfl (Nat.le_of_ble_eq_true rfl) dX6_begin_7 (fun H locs hP hD hS => ?_)
  have hP : va_P D vwCl [(h0, .inr (6, [.ref r_bytes, .int 0, .int r_faultKind, .int r_faultAt, .long r_letters, .int 900, .int 0, .int r_at, .int r_kind, .int r_number]))] H := hP
  have hD : va_D A [(h0, .inr (6, [.ref r_bytes, .int 0, .int r_faultKind, .int r_faultAt, .long r_letters, .int 900, .int 0, .int r_at, .int r_kind, .int r_number]))] := hD
  refine lv_aload_n hx hb dX6_begin_10 rfl (lv_at hl 0 rfl) ?_
  refine lv_iconst (v := 0) hx hb dX6_begin_11 (by decide) ?_
  refine va_put (D := D) (ci := 6) (v := .int 0) (ty := .int) (C := RX6) (T := TX6) (N := 10) hx hb hts k2 tyX6 tyX6_ok nmX6 hown hK.1 hP hD hS 0 rfl rfl 2 (by decide) k4 (fun _ h9 => h9) rfl (by decide +kernel) rfl rfl (Nat.le_of_ble_eq_true rfl) dX6_begin_12 (fun H locs hP hD hS => ?_)
  have hP : va_P D vwCl [(h0, .inr (6, [.ref r_bytes, .int 0, .int 0, .int r_faultAt, .long r_letters, .int 900, .int 0, .int r_at, .int r_kind, .int r_number]))] H := hP
  have hD : va_D A [(h0, .inr (6, [.ref r_bytes, .int 0, .int 0, .int r_faultAt, .long r_letters, .int 900, .int 0, .int r_at, .int r_kind, .int r_number]))] := hD
  refine lv_aload_n hx hb dX6_begin_15 rfl (lv_at hl 0 rfl) ?_
  refine lv_iconst (v := 0) hx hb dX6_begin_16 (by decide) ?_
  refine va_put (D := D) (ci := 6) (v := .int 0) (ty := .int) (C := RX6) (T := TX6) (N := 10) hx hb hts k2 tyX6 tyX6_ok nmX6 hown hK.1 hP hD hS 0 rfl rfl 3 (by decide) k5 (fun _ h9 => h9) rfl (by decide +kernel) rfl rfl (Nat.le_of_ble_eq_true rfl) dX6_begin_17 (fun H locs hP hD hS => ?_)
  have hP : va_P D vwCl [(h0, .inr (6, [.ref r_bytes, .int 0, .int 0, .int 0, .long r_letters, .int 900, .int 0, .int r_at, .int r_kind, .int r_number]))] H := hP
  have hD : va_D A [(h0, .inr (6, [.ref r_bytes, .int 0, .int 0, .int 0, .long r_letters, .int 900, .int 0, .int r_at, .int r_kind, .int r_number]))] := hD
  refine lv_aload_n hx hb dX6_begin_20 rfl (lv_at hl 0 rfl) ?_
  refine oC_v (Wc := [(h0, .inr (6, [.ref r_bytes, .int 0, .int 0, .int 0, .long r_letters, .int 900, .int 0, .int r_at, .int r_kind, .int r_number]))]) (Wr := []) (va_runV (As := []) (rest := []) ⟨hx, hb, hml, hown, hts⟩ (c_advance_900 l D ca H.size h0 r_bytes 0 r_letters r_at r_kind r_number) (cwV 0 hts gX6_begin_X6_advance rfl rfl rfl (by decide +kernel) ⟨Nat.le_of_ble_eq_true rfl, Nat.le_of_ble_eq_true rfl⟩) (oPV (C := RX6) hK hP hD [0] rfl (by decide) 0 rfl (ci := 6) rfl rfl) rfl rfl hl.1 rfl (lv_room (Nat.le_of_ble_eq_true rfl)) dX6_begin_21 ⟨Nat.le_of_ble_eq_true rfl, Nat.le_of_ble_eq_true rfl⟩) hP hD hS hA [0] [] rfl rfl (by decide) (by decide) (fun u H locs w_2 hP hD hS => ?_)
  obtain ⟨⟩ := u
  have hP : va_P D vwCl [(h0, .inr (6, [.ref r_bytes, .int 0, .int 0, .int 0, .long 0, .int 900, .int 0, .int 0, .int 1, .int r_number]))] H := hP
  have hD : va_D A [(h0, .inr (6, [.ref r_bytes, .int 0, .int 0, .int 0, .long 0, .int 900, .int 0, .int 0, .int 1, .int r_number]))] := hD
  exact oE_v hx hb hr hlocks hP hD hS () [0] rfl (by decide) trivial (Nat.le_of_ble_eq_true rfl) (Nat.le_of_ble_eq_true rfl) dX6_begin_24
set_option maxHeartbeats 4000000 in
set_option maxRecDepth 100000 in
theorem c_advance_400 (l : Launch) (D : va_G) (ca : Nat → ClassId) (sz : Nat) (h0 : Nat) (r_bytes : Nat) (r_faultAt : Int32) (r_letters : Int64) (r_at : Int32) (r_kind : Int32) (r_number : Int32)  : oMet l yX6_advance wsX6_advance ({ frames := 1, cells := 0, slots := 0, locals := 20 } : Room) [.ref h0] D ca sz [(h0, .inr (6, [.ref r_bytes, .int 0, .int 0, .int r_faultAt, .long r_letters, .int 400, .int 0, .int r_at, .int r_kind, .int r_number]))] (oQv D (fun (u : Unit) => True) (fun (u : Unit) => [(h0, .inr (6, [.ref r_bytes, .int 0, .int 0, .int r_faultAt, .long 0, .int 400, .int 0, .int 0, .int 1, .int r_number]))])) 0 0 := by
  refine oM (cc := cX6_advance) (maxL := 2) (ret := none) (by decide) rfl (Nat.le_of_ble_eq_true rfl) [(0, .ref h0)] rfl ?_
  intro p e s m below meth c A H locs ls hx hb hr hml hts hown hlocks hin hK hP hD hA hS hl
  have hown : s.vm.findClass RX6 = some m.cls := hown
  have k1 := hts (.fieldLink RX6 15 "LidCourt$Reader" "length" "I") (by decide +kernel)
  have k2 : ∀ w ∈ wsX60, w ∈ wsX6_advance := fun _ h => List.mem_cons_of_mem _ (List.mem_append_right _ h)
  have k3 := hts (.fieldLink RX6 19 "LidCourt$Reader" "mostBytes" "I") (by decide +kernel)
  have k4 := hts (.methodLink RX6 38 Lib.Math.min.name) (by decide +kernel)
  have k5 := hts (.static Lib.Math.min.name) (by decide +kernel)
  have k6 := hts (.initialized "java/lang/Math") (by decide +kernel)
  have k7 := hts (.code Lib.Math.min.name Lib.Math.min.code 2 (some .int)) (by decide +kernel)
  have k8 := hts (.fieldLink RX6 22 "LidCourt$Reader" "behind" "I") (by decide +kernel)
  have k9 := hts (.fieldLink RX6 44 "LidCourt$Reader" "letters" "J") (by decide +kernel)
  have k10 := hts (.fieldLink RX6 48 "LidCourt$Reader" "at" "I") (by decide +kernel)
  have k11 := hts (.fieldLink RX6 51 "LidCourt$Reader" "kind" "I") (by decide +kernel)
  refine lv_aload_n hx hb dX6_advance_0 rfl (lv_at hl 0 rfl) ?_
  refine oC_i (Wc := [(h0, .inr (6, [.ref r_bytes, .int 0, .int 0, .int r_faultAt, .long r_letters, .int 400, .int 0, .int r_at, .int r_kind, .int r_number]))]) (Wr := []) (va_runV (As := []) (rest := []) ⟨hx, hb, hml, hown, hts⟩ (c_isBroken l D ca H.size h0 r_bytes 0 r_faultAt r_letters 400 0 r_at r_kind r_number) (cwV 0 hts gX6_advance_X6_isBroken rfl rfl rfl (by decide +kernel) ⟨Nat.le_of_ble_eq_true rfl, Nat.le_of_ble_eq_true rfl⟩) (oPV (C := RX6) hK hP hD [0] rfl (by decide) 0 rfl (ci := 6) rfl rfl) rfl rfl hl.1 rfl (lv_room (Nat.le_of_ble_eq_true rfl)) dX6_advance_1 ⟨Nat.le_of_ble_eq_true rfl, Nat.le_of_ble_eq_true rfl⟩) hP hD hS hA [0] [] rfl rfl (by decide) (by decide) (fun r_1 u H locs w_2 hP hD hS => ?_)
  obtain ⟨⟩ := u
  try dsimp only at w_2
  subst w_2
  have hP : va_P D vwCl [(h0, .inr (6, [.ref r_bytes, .int 0, .int 0, .int r_faultAt, .long r_letters, .int 400, .int 0, .int r_at, .int r_kind, .int r_number]))] H := hP
  have hD : va_D A [(h0, .inr (6, [.ref r_bytes, .int 0, .int 0, .int r_faultAt, .long r_letters, .int 400, .int 0, .int r_at, .int r_kind, .int r_number]))] := hD
  refine lv_if_eq (tgt := 8) hx hb dX6_advance_4 (by decide) (fun _ => ?_) (fun c => absurd (by decide) c)
  refine lv_aload_n hx hb dX6_advance_8 rfl (lv_at hl 0 rfl) ?_
  refine va_get (D := D) (ci := 6) (v := .int 0) (C := RX6) (T := TX6) (N := 10) hx hb hts k2 hown hK.1 hP 0 rfl rfl 1 (by decide) k1 (fun _ h9 => h9) rfl dX6_advance_9 ?_
  refine lv_aload_n hx hb dX6_advance_12 rfl (lv_at hl 0 rfl) ?_
  refine va_get (D := D) (ci := 6) (v := .int 400) (C := RX6) (T := TX6) (N := 10) hx hb hts k2 hown hK.1 hP 0 rfl rfl 5 (by decide) k3 (fun _ h9 => h9) rfl dX6_advance_13 ?_
  refine va_mmin hx hb (by rw [hml]; exact hl.1.symm) hown k4 k5 k6 k7 (Nat.le_of_ble_eq_true rfl) (Nat.le_of_ble_eq_true rfl) (Nat.le_of_ble_eq_true rfl) (Nat.le_of_ble_eq_true rfl) dX6_advance_16 ?_
  refine oti 0 (by decide) ?_
  refine lv_istore_n (lv' := [(1, .int 0), (0, .ref h0)]) hx hb dX6_advance_19 rfl hl (by decide) rfl (fun ls hl => ?_)
  refine lv_aload_n hx hb dX6_advance_20 rfl (lv_at hl 1 rfl) ?_
  refine va_get (D := D) (ci := 6) (v := .int 0) (C := RX6) (T := TX6) (N := 10) hx hb hts k2 hown hK.1 hP 0 rfl rfl 6 (by decide) k8 (fun _ h9 => h9) rfl dX6_advance_21 ?_
  refine lv_iload_n hx hb dX6_advance_24 rfl (lv_at hl 0 rfl) ?_
  refine lv_icmp_ge (tgt := 69) hx hb dX6_advance_25 (by decide) (fun _ => ?_) (fun c => absurd (by decide) c)
  refine lv_aload_n hx hb dX6_advance_69 rfl (lv_at hl 1 rfl) ?_
  refine lv_lconst (v := 0) hx hb dX6_advance_70 (by decide) ?_
  refine va_put (D := D) (ci := 6) (v := .long 0) (ty := .long) (C := RX6) (T := TX6) (N := 10) hx hb hts k2 tyX6 tyX6_ok nmX6 hown hK.1 hP hD hS 0 rfl rfl 4 (by decide) k9 (fun _ h9 => h9) rfl (by decide +kernel) rfl rfl (Nat.le_of_ble_eq_true rfl) dX6_advance_71 (fun H locs hP hD hS => ?_)
  have hP : va_P D vwCl [(h0, .inr (6, [.ref r_bytes, .int 0, .int 0, .int r_faultAt, .long 0, .int 400, .int 0, .int r_at, .int r_kind, .int r_number]))] H := hP
  have hD : va_D A [(h0, .inr (6, [.ref r_bytes, .int 0, .int 0, .int r_faultAt, .long 0, .int 400, .int 0, .int r_at, .int r_kind, .int r_number]))] := hD
  refine lv_aload_n hx hb dX6_advance_74 rfl (lv_at hl 1 rfl) ?_
  refine va_get (D := D) (ci := 6) (v := .int 0) (C := RX6) (T := TX6) (N := 10) hx hb hts k2 hown hK.1 hP 0 rfl rfl 6 (by decide) k8 (fun _ h9 => h9) rfl dX6_advance_75 ?_
  refine lv_iload_n hx hb dX6_advance_78 rfl (lv_at hl 0 rfl) ?_
  refine lv_icmp_lt (tgt := 108) hx hb dX6_advance_79 (by decide) (fun c => absurd c (by decide)) (fun _ => ?_)
  refine lv_aload_n hx hb dX6_advance_82 rfl (lv_at hl 1 rfl) ?_
  refine lv_iload_n hx hb dX6_advance_83 rfl (lv_at hl 0 rfl) ?_
  refine va_put (D := D) (ci := 6) (v := .int 0) (ty := .int) (C := RX6) (T := TX6) (N := 10) hx hb hts k2 tyX6 tyX6_ok nmX6 hown hK.1 hP hD hS 0 rfl rfl 7 (by decide) k10 (fun _ h9 => h9) rfl (by decide +kernel) rfl rfl (Nat.le_of_ble_eq_true rfl) dX6_advance_84 (fun H locs hP hD hS => ?_)
  have hP : va_P D vwCl [(h0, .inr (6, [.ref r_bytes, .int 0, .int 0, .int r_faultAt, .long 0, .int 400, .int 0, .int 0, .int r_kind, .int r_number]))] H := hP
  have hD : va_D A [(h0, .inr (6, [.ref r_bytes, .int 0, .int 0, .int r_faultAt, .long 0, .int 400, .int 0, .int 0, .int r_kind, .int r_number]))] := hD
  refine lv_aload_n hx hb dX6_advance_87 rfl (lv_at hl 1 rfl) ?_
  refine lv_aload_n hx hb dX6_advance_88 rfl (lv_at hl 1 rfl) ?_
  refine va_get (D := D) (ci := 6) (v := .int 0) (C := RX6) (T := TX6) (N := 10) hx hb hts k2 hown hK.1 hP 0 rfl rfl 1 (by decide) k1 (fun _ h9 => h9) rfl dX6_advance_89 ?_
  refine lv_aload_n hx hb dX6_advance_92 rfl (lv_at hl 1 rfl) ?_
  refine va_get (D := D) (ci := 6) (v := .int 400) (C := RX6) (T := TX6) (N := 10) hx hb hts k2 hown hK.1 hP 0 rfl rfl 5 (by decide) k3 (fun _ h9 => h9) rfl dX6_advance_93 ?_
  refine lv_icmp_le (tgt := 103) hx hb dX6_advance_96 (by decide) (fun _ => ?_) (fun c => absurd (by decide) c)
  refine lv_iconst (v := 1) hx hb dX6_advance_103 (by decide) ?_
  refine va_put (D := D) (ci := 6) (v := .int 1) (ty := .int) (C := RX6) (T := TX6) (N := 10) hx hb hts k2 tyX6 tyX6_ok nmX6 hown hK.1 hP hD hS 0 rfl rfl 8 (by decide) k11 (fun _ h9 => h9) rfl (by decide +kernel) rfl rfl (Nat.le_of_ble_eq_true rfl) dX6_advance_104 (fun H locs hP hD hS => ?_)
  have hP : va_P D vwCl [(h0, .inr (6, [.ref r_bytes, .int 0, .int 0, .int r_faultAt, .long 0, .int 400, .int 0, .int 0, .int 1, .int r_number]))] H := hP
  have hD : va_D A [(h0, .inr (6, [.ref r_bytes, .int 0, .int 0, .int r_faultAt, .long 0, .int 400, .int 0, .int 0, .int 1, .int r_number]))] := hD
  exact oE_v hx hb hr hlocks hP hD hS () [0] rfl (by decide) trivial (Nat.le_of_ble_eq_true rfl) (Nat.le_of_ble_eq_true rfl) dX6_advance_107
set_option maxHeartbeats 4000000 in
set_option maxRecDepth 100000 in
theorem c_begin_400 (l : Launch) (D : va_G) (ca : Nat → ClassId) (sz : Nat) (h0 : Nat) (r_bytes : Nat) (r_faultKind : Int32) (r_faultAt : Int32) (r_letters : Int64) (r_mostBytes : Int32) (r_behind : Int32) (r_at : Int32) (r_kind : Int32) (r_number : Int32)  : oMet l yX6_begin wsX6_begin ({ frames := 2, cells := 0, slots := 0, locals := 41 } : Room) [.ref h0, .int 400] D ca sz [(h0, .inr (6, [.ref r_bytes, .int 0, .int r_faultKind, .int r_faultAt, .long r_letters, .int r_mostBytes, .int r_behind, .int r_at, .int r_kind, .int r_number]))] (oQv D (fun (u : Unit) => True) (fun (u : Unit) => [(h0, .inr (6, [.ref r_bytes, .int 0, .int 0, .int 0, .long 0, .int 400, .int 0, .int 0, .int 1, .int r_number]))])) 0 0 := by
  refine oM (cc := cX6_begin) (maxL := 2) (ret := none) (by decide) rfl (Nat.le_of_ble_eq_true rfl) [(0, .ref h0), (1, .int 400)] rfl ?_
  intro p e s m below meth c A H locs ls hx hb hr hml hts hown hlocks hin hK hP hD hA hS hl
  have hown : s.vm.findClass RX6 = some m.cls := hown
  have k1 := hts (.fieldLink RX6 19 "LidCourt$Reader" "mostBytes" "I") (by decide +kernel)
  have k2 : ∀ w ∈ wsX60, w ∈ wsX6_begin := fun _ h => List.mem_cons_of_mem _ (List.mem_append_right _ h)
  have k3 := hts (.fieldLink RX6 22 "LidCourt$Reader" "behind" "I") (by decide +kernel)
  have k4 := hts (.fieldLink RX6 25 "LidCourt$Reader" "faultKind" "I") (by decide +kernel)
  have k5 := hts (.fieldLink RX6 28 "LidCourt$Reader" "faultAt" "I") (by decide +kernel)
  refine lv_aload_n hx hb dX6_begin_0 rfl (lv_at hl 0 rfl) ?_
  refine lv_iload_n hx hb dX6_begin_1 rfl (lv_at hl 1 rfl) ?_
  refine va_put (D := D) (ci := 6) (v := .int 400) (ty := .int) (C := RX6) (T := TX6) (N := 10) hx hb hts k2 tyX6 tyX6_ok nmX6 hown hK.1 hP hD hS 0 rfl rfl 5 (by decide) k1 (fun _ h9 => h9) rfl (by decide +kernel) rfl rfl (Nat.le_of_ble_eq_true rfl) dX6_begin_2 (fun H locs hP hD hS => ?_)
  have hP : va_P D vwCl [(h0, .inr (6, [.ref r_bytes, .int 0, .int r_faultKind, .int r_faultAt, .long r_letters, .int 400, .int r_behind, .int r_at, .int r_kind, .int r_number]))] H := hP
  have hD : va_D A [(h0, .inr (6, [.ref r_bytes, .int 0, .int r_faultKind, .int r_faultAt, .long r_letters, .int 400, .int r_behind, .int r_at, .int r_kind, .int r_number]))] := hD
  refine lv_aload_n hx hb dX6_begin_5 rfl (lv_at hl 0 rfl) ?_
  refine lv_iconst (v := 0) hx hb dX6_begin_6 (by decide) ?_
  refine va_put (D := D) (ci := 6) (v := .int 0) (ty := .int) (C := RX6) (T := TX6) (N := 10) hx hb hts k2 tyX6 tyX6_ok nmX6 hown hK.1 hP hD hS 0 rfl rfl 6 (by decide) k3 (fun _ h9 => h9) rfl (by decide +kernel) rfl rfl (Nat.le_of_ble_eq_true rfl) dX6_begin_7 (fun H locs hP hD hS => ?_)
  have hP : va_P D vwCl [(h0, .inr (6, [.ref r_bytes, .int 0, .int r_faultKind, .int r_faultAt, .long r_letters, .int 400, .int 0, .int r_at, .int r_kind, .int r_number]))] H := hP
  have hD : va_D A [(h0, .inr (6, [.ref r_bytes, .int 0, .int r_faultKind, .int r_faultAt, .long r_letters, .int 400, .int 0, .int r_at, .int r_kind, .int r_number]))] := hD
  refine lv_aload_n hx hb dX6_begin_10 rfl (lv_at hl 0 rfl) ?_
  refine lv_iconst (v := 0) hx hb dX6_begin_11 (by decide) ?_
  refine va_put (D := D) (ci := 6) (v := .int 0) (ty := .int) (C := RX6) (T := TX6) (N := 10) hx hb hts k2 tyX6 tyX6_ok nmX6 hown hK.1 hP hD hS 0 rfl rfl 2 (by decide) k4 (fun _ h9 => h9) rfl (by decide +kernel) rfl rfl (Nat.le_of_ble_eq_true rfl) dX6_begin_12 (fun H locs hP hD hS => ?_)
  have hP : va_P D vwCl [(h0, .inr (6, [.ref r_bytes, .int 0, .int 0, .int r_faultAt, .long r_letters, .int 400, .int 0, .int r_at, .int r_kind, .int r_number]))] H := hP
  have hD : va_D A [(h0, .inr (6, [.ref r_bytes, .int 0, .int 0, .int r_faultAt, .long r_letters, .int 400, .int 0, .int r_at, .int r_kind, .int r_number]))] := hD
  refine lv_aload_n hx hb dX6_begin_15 rfl (lv_at hl 0 rfl) ?_
  refine lv_iconst (v := 0) hx hb dX6_begin_16 (by decide) ?_
  refine va_put (D := D) (ci := 6) (v := .int 0) (ty := .int) (C := RX6) (T := TX6) (N := 10) hx hb hts k2 tyX6 tyX6_ok nmX6 hown hK.1 hP hD hS 0 rfl rfl 3 (by decide) k5 (fun _ h9 => h9) rfl (by decide +kernel) rfl rfl (Nat.le_of_ble_eq_true rfl) dX6_begin_17 (fun H locs hP hD hS => ?_)
  have hP : va_P D vwCl [(h0, .inr (6, [.ref r_bytes, .int 0, .int 0, .int 0, .long r_letters, .int 400, .int 0, .int r_at, .int r_kind, .int r_number]))] H := hP
  have hD : va_D A [(h0, .inr (6, [.ref r_bytes, .int 0, .int 0, .int 0, .long r_letters, .int 400, .int 0, .int r_at, .int r_kind, .int r_number]))] := hD
  refine lv_aload_n hx hb dX6_begin_20 rfl (lv_at hl 0 rfl) ?_
  refine oC_v (Wc := [(h0, .inr (6, [.ref r_bytes, .int 0, .int 0, .int 0, .long r_letters, .int 400, .int 0, .int r_at, .int r_kind, .int r_number]))]) (Wr := []) (va_runV (As := []) (rest := []) ⟨hx, hb, hml, hown, hts⟩ (c_advance_400 l D ca H.size h0 r_bytes 0 r_letters r_at r_kind r_number) (cwV 0 hts gX6_begin_X6_advance rfl rfl rfl (by decide +kernel) ⟨Nat.le_of_ble_eq_true rfl, Nat.le_of_ble_eq_true rfl⟩) (oPV (C := RX6) hK hP hD [0] rfl (by decide) 0 rfl (ci := 6) rfl rfl) rfl rfl hl.1 rfl (lv_room (Nat.le_of_ble_eq_true rfl)) dX6_begin_21 ⟨Nat.le_of_ble_eq_true rfl, Nat.le_of_ble_eq_true rfl⟩) hP hD hS hA [0] [] rfl rfl (by decide) (by decide) (fun u H locs w_2 hP hD hS => ?_)
  obtain ⟨⟩ := u
  have hP : va_P D vwCl [(h0, .inr (6, [.ref r_bytes, .int 0, .int 0, .int 0, .long 0, .int 400, .int 0, .int 0, .int 1, .int r_number]))] H := hP
  have hD : va_D A [(h0, .inr (6, [.ref r_bytes, .int 0, .int 0, .int 0, .long 0, .int 400, .int 0, .int 0, .int 1, .int r_number]))] := hD
  exact oE_v hx hb hr hlocks hP hD hS () [0] rfl (by decide) trivial (Nat.le_of_ble_eq_true rfl) (Nat.le_of_ble_eq_true rfl) dX6_begin_24
set_option maxHeartbeats 4000000 in
set_option maxRecDepth 100000 in
theorem c_advance_200 (l : Launch) (D : va_G) (ca : Nat → ClassId) (sz : Nat) (h0 : Nat) (r_bytes : Nat) (r_faultAt : Int32) (r_letters : Int64) (r_at : Int32) (r_kind : Int32) (r_number : Int32)  : oMet l yX6_advance wsX6_advance ({ frames := 1, cells := 0, slots := 0, locals := 20 } : Room) [.ref h0] D ca sz [(h0, .inr (6, [.ref r_bytes, .int 0, .int 0, .int r_faultAt, .long r_letters, .int 200, .int 0, .int r_at, .int r_kind, .int r_number]))] (oQv D (fun (u : Unit) => True) (fun (u : Unit) => [(h0, .inr (6, [.ref r_bytes, .int 0, .int 0, .int r_faultAt, .long 0, .int 200, .int 0, .int 0, .int 1, .int r_number]))])) 0 0 := by
  refine oM (cc := cX6_advance) (maxL := 2) (ret := none) (by decide) rfl (Nat.le_of_ble_eq_true rfl) [(0, .ref h0)] rfl ?_
  intro p e s m below meth c A H locs ls hx hb hr hml hts hown hlocks hin hK hP hD hA hS hl
  have hown : s.vm.findClass RX6 = some m.cls := hown
  have k1 := hts (.fieldLink RX6 15 "LidCourt$Reader" "length" "I") (by decide +kernel)
  have k2 : ∀ w ∈ wsX60, w ∈ wsX6_advance := fun _ h => List.mem_cons_of_mem _ (List.mem_append_right _ h)
  have k3 := hts (.fieldLink RX6 19 "LidCourt$Reader" "mostBytes" "I") (by decide +kernel)
  have k4 := hts (.methodLink RX6 38 Lib.Math.min.name) (by decide +kernel)
  have k5 := hts (.static Lib.Math.min.name) (by decide +kernel)
  have k6 := hts (.initialized "java/lang/Math") (by decide +kernel)
  have k7 := hts (.code Lib.Math.min.name Lib.Math.min.code 2 (some .int)) (by decide +kernel)
  have k8 := hts (.fieldLink RX6 22 "LidCourt$Reader" "behind" "I") (by decide +kernel)
  have k9 := hts (.fieldLink RX6 44 "LidCourt$Reader" "letters" "J") (by decide +kernel)
  have k10 := hts (.fieldLink RX6 48 "LidCourt$Reader" "at" "I") (by decide +kernel)
  have k11 := hts (.fieldLink RX6 51 "LidCourt$Reader" "kind" "I") (by decide +kernel)
  refine lv_aload_n hx hb dX6_advance_0 rfl (lv_at hl 0 rfl) ?_
  refine oC_i (Wc := [(h0, .inr (6, [.ref r_bytes, .int 0, .int 0, .int r_faultAt, .long r_letters, .int 200, .int 0, .int r_at, .int r_kind, .int r_number]))]) (Wr := []) (va_runV (As := []) (rest := []) ⟨hx, hb, hml, hown, hts⟩ (c_isBroken l D ca H.size h0 r_bytes 0 r_faultAt r_letters 200 0 r_at r_kind r_number) (cwV 0 hts gX6_advance_X6_isBroken rfl rfl rfl (by decide +kernel) ⟨Nat.le_of_ble_eq_true rfl, Nat.le_of_ble_eq_true rfl⟩) (oPV (C := RX6) hK hP hD [0] rfl (by decide) 0 rfl (ci := 6) rfl rfl) rfl rfl hl.1 rfl (lv_room (Nat.le_of_ble_eq_true rfl)) dX6_advance_1 ⟨Nat.le_of_ble_eq_true rfl, Nat.le_of_ble_eq_true rfl⟩) hP hD hS hA [0] [] rfl rfl (by decide) (by decide) (fun r_1 u H locs w_2 hP hD hS => ?_)
  obtain ⟨⟩ := u
  try dsimp only at w_2
  subst w_2
  have hP : va_P D vwCl [(h0, .inr (6, [.ref r_bytes, .int 0, .int 0, .int r_faultAt, .long r_letters, .int 200, .int 0, .int r_at, .int r_kind, .int r_number]))] H := hP
  have hD : va_D A [(h0, .inr (6, [.ref r_bytes, .int 0, .int 0, .int r_faultAt, .long r_letters, .int 200, .int 0, .int r_at, .int r_kind, .int r_number]))] := hD
  refine lv_if_eq (tgt := 8) hx hb dX6_advance_4 (by decide) (fun _ => ?_) (fun c => absurd (by decide) c)
  refine lv_aload_n hx hb dX6_advance_8 rfl (lv_at hl 0 rfl) ?_
  refine va_get (D := D) (ci := 6) (v := .int 0) (C := RX6) (T := TX6) (N := 10) hx hb hts k2 hown hK.1 hP 0 rfl rfl 1 (by decide) k1 (fun _ h9 => h9) rfl dX6_advance_9 ?_
  refine lv_aload_n hx hb dX6_advance_12 rfl (lv_at hl 0 rfl) ?_
  refine va_get (D := D) (ci := 6) (v := .int 200) (C := RX6) (T := TX6) (N := 10) hx hb hts k2 hown hK.1 hP 0 rfl rfl 5 (by decide) k3 (fun _ h9 => h9) rfl dX6_advance_13 ?_
  refine va_mmin hx hb (by rw [hml]; exact hl.1.symm) hown k4 k5 k6 k7 (Nat.le_of_ble_eq_true rfl) (Nat.le_of_ble_eq_true rfl) (Nat.le_of_ble_eq_true rfl) (Nat.le_of_ble_eq_true rfl) dX6_advance_16 ?_
  refine oti 0 (by decide) ?_
  refine lv_istore_n (lv' := [(1, .int 0), (0, .ref h0)]) hx hb dX6_advance_19 rfl hl (by decide) rfl (fun ls hl => ?_)
  refine lv_aload_n hx hb dX6_advance_20 rfl (lv_at hl 1 rfl) ?_
  refine va_get (D := D) (ci := 6) (v := .int 0) (C := RX6) (T := TX6) (N := 10) hx hb hts k2 hown hK.1 hP 0 rfl rfl 6 (by decide) k8 (fun _ h9 => h9) rfl dX6_advance_21 ?_
  refine lv_iload_n hx hb dX6_advance_24 rfl (lv_at hl 0 rfl) ?_
  refine lv_icmp_ge (tgt := 69) hx hb dX6_advance_25 (by decide) (fun _ => ?_) (fun c => absurd (by decide) c)
  refine lv_aload_n hx hb dX6_advance_69 rfl (lv_at hl 1 rfl) ?_
  refine lv_lconst (v := 0) hx hb dX6_advance_70 (by decide) ?_
  refine va_put (D := D) (ci := 6) (v := .long 0) (ty := .long) (C := RX6) (T := TX6) (N := 10) hx hb hts k2 tyX6 tyX6_ok nmX6 hown hK.1 hP hD hS 0 rfl rfl 4 (by decide) k9 (fun _ h9 => h9) rfl (by decide +kernel) rfl rfl (Nat.le_of_ble_eq_true rfl) dX6_advance_71 (fun H locs hP hD hS => ?_)
  have hP : va_P D vwCl [(h0, .inr (6, [.ref r_bytes, .int 0, .int 0, .int r_faultAt, .long 0, .int 200, .int 0, .int r_at, .int r_kind, .int r_number]))] H := hP
  have hD : va_D A [(h0, .inr (6, [.ref r_bytes, .int 0, .int 0, .int r_faultAt, .long 0, .int 200, .int 0, .int r_at, .int r_kind, .int r_number]))] := hD
  refine lv_aload_n hx hb dX6_advance_74 rfl (lv_at hl 1 rfl) ?_
  refine va_get (D := D) (ci := 6) (v := .int 0) (C := RX6) (T := TX6) (N := 10) hx hb hts k2 hown hK.1 hP 0 rfl rfl 6 (by decide) k8 (fun _ h9 => h9) rfl dX6_advance_75 ?_
  refine lv_iload_n hx hb dX6_advance_78 rfl (lv_at hl 0 rfl) ?_
  refine lv_icmp_lt (tgt := 108) hx hb dX6_advance_79 (by decide) (fun c => absurd c (by decide)) (fun _ => ?_)
  refine lv_aload_n hx hb dX6_advance_82 rfl (lv_at hl 1 rfl) ?_
  refine lv_iload_n hx hb dX6_advance_83 rfl (lv_at hl 0 rfl) ?_
  refine va_put (D := D) (ci := 6) (v := .int 0) (ty := .int) (C := RX6) (T := TX6) (N := 10) hx hb hts k2 tyX6 tyX6_ok nmX6 hown hK.1 hP hD hS 0 rfl rfl 7 (by decide) k10 (fun _ h9 => h9) rfl (by decide +kernel) rfl rfl (Nat.le_of_ble_eq_true rfl) dX6_advance_84 (fun H locs hP hD hS => ?_)
  have hP : va_P D vwCl [(h0, .inr (6, [.ref r_bytes, .int 0, .int 0, .int r_faultAt, .long 0, .int 200, .int 0, .int 0, .int r_kind, .int r_number]))] H := hP
  have hD : va_D A [(h0, .inr (6, [.ref r_bytes, .int 0, .int 0, .int r_faultAt, .long 0, .int 200, .int 0, .int 0, .int r_kind, .int r_number]))] := hD
  refine lv_aload_n hx hb dX6_advance_87 rfl (lv_at hl 1 rfl) ?_
  refine lv_aload_n hx hb dX6_advance_88 rfl (lv_at hl 1 rfl) ?_
  refine va_get (D := D) (ci := 6) (v := .int 0) (C := RX6) (T := TX6) (N := 10) hx hb hts k2 hown hK.1 hP 0 rfl rfl 1 (by decide) k1 (fun _ h9 => h9) rfl dX6_advance_89 ?_
  refine lv_aload_n hx hb dX6_advance_92 rfl (lv_at hl 1 rfl) ?_
  refine va_get (D := D) (ci := 6) (v := .int 200) (C := RX6) (T := TX6) (N := 10) hx hb hts k2 hown hK.1 hP 0 rfl rfl 5 (by decide) k3 (fun _ h9 => h9) rfl dX6_advance_93 ?_
  refine lv_icmp_le (tgt := 103) hx hb dX6_advance_96 (by decide) (fun _ => ?_) (fun c => absurd (by decide) c)
  refine lv_iconst (v := 1) hx hb dX6_advance_103 (by decide) ?_
  refine va_put (D := D) (ci := 6) (v := .int 1) (ty := .int) (C := RX6) (T := TX6) (N := 10) hx hb hts k2 tyX6 tyX6_ok nmX6 hown hK.1 hP hD hS 0 rfl rfl 8 (by decide) k11 (fun _ h9 => h9) rfl (by decide +kernel) rfl rfl (Nat.le_of_ble_eq_true rfl) dX6_advance_104 (fun H locs hP hD hS => ?_)
  have hP : va_P D vwCl [(h0, .inr (6, [.ref r_bytes, .int 0, .int 0, .int r_faultAt, .long 0, .int 200, .int 0, .int 0, .int 1, .int r_number]))] H := hP
  have hD : va_D A [(h0, .inr (6, [.ref r_bytes, .int 0, .int 0, .int r_faultAt, .long 0, .int 200, .int 0, .int 0, .int 1, .int r_number]))] := hD
  exact oE_v hx hb hr hlocks hP hD hS () [0] rfl (by decide) trivial (Nat.le_of_ble_eq_true rfl) (Nat.le_of_ble_eq_true rfl) dX6_advance_107
set_option maxHeartbeats 4000000 in
set_option maxRecDepth 100000 in
theorem c_begin_200 (l : Launch) (D : va_G) (ca : Nat → ClassId) (sz : Nat) (h0 : Nat) (r_bytes : Nat) (r_faultKind : Int32) (r_faultAt : Int32) (r_letters : Int64) (r_mostBytes : Int32) (r_behind : Int32) (r_at : Int32) (r_kind : Int32) (r_number : Int32)  : oMet l yX6_begin wsX6_begin ({ frames := 2, cells := 0, slots := 0, locals := 41 } : Room) [.ref h0, .int 200] D ca sz [(h0, .inr (6, [.ref r_bytes, .int 0, .int r_faultKind, .int r_faultAt, .long r_letters, .int r_mostBytes, .int r_behind, .int r_at, .int r_kind, .int r_number]))] (oQv D (fun (u : Unit) => True) (fun (u : Unit) => [(h0, .inr (6, [.ref r_bytes, .int 0, .int 0, .int 0, .long 0, .int 200, .int 0, .int 0, .int 1, .int r_number]))])) 0 0 := by
  refine oM (cc := cX6_begin) (maxL := 2) (ret := none) (by decide) rfl (Nat.le_of_ble_eq_true rfl) [(0, .ref h0), (1, .int 200)] rfl ?_
  intro p e s m below meth c A H locs ls hx hb hr hml hts hown hlocks hin hK hP hD hA hS hl
  have hown : s.vm.findClass RX6 = some m.cls := hown
  have k1 := hts (.fieldLink RX6 19 "LidCourt$Reader" "mostBytes" "I") (by decide +kernel)
  have k2 : ∀ w ∈ wsX60, w ∈ wsX6_begin := fun _ h => List.mem_cons_of_mem _ (List.mem_append_right _ h)
  have k3 := hts (.fieldLink RX6 22 "LidCourt$Reader" "behind" "I") (by decide +kernel)
  have k4 := hts (.fieldLink RX6 25 "LidCourt$Reader" "faultKind" "I") (by decide +kernel)
  have k5 := hts (.fieldLink RX6 28 "LidCourt$Reader" "faultAt" "I") (by decide +kernel)
  refine lv_aload_n hx hb dX6_begin_0 rfl (lv_at hl 0 rfl) ?_
  refine lv_iload_n hx hb dX6_begin_1 rfl (lv_at hl 1 rfl) ?_
  refine va_put (D := D) (ci := 6) (v := .int 200) (ty := .int) (C := RX6) (T := TX6) (N := 10) hx hb hts k2 tyX6 tyX6_ok nmX6 hown hK.1 hP hD hS 0 rfl rfl 5 (by decide) k1 (fun _ h9 => h9) rfl (by decide +kernel) rfl rfl (Nat.le_of_ble_eq_true rfl) dX6_begin_2 (fun H locs hP hD hS => ?_)
  have hP : va_P D vwCl [(h0, .inr (6, [.ref r_bytes, .int 0, .int r_faultKind, .int r_faultAt, .long r_letters, .int 200, .int r_behind, .int r_at, .int r_kind, .int r_number]))] H := hP
  have hD : va_D A [(h0, .inr (6, [.ref r_bytes, .int 0, .int r_faultKind, .int r_faultAt, .long r_letters, .int 200, .int r_behind, .int r_at, .int r_kind, .int r_number]))] := hD
  refine lv_aload_n hx hb dX6_begin_5 rfl (lv_at hl 0 rfl) ?_
  refine lv_iconst (v := 0) hx hb dX6_begin_6 (by decide) ?_
  refine va_put (D := D) (ci := 6) (v := .int 0) (ty := .int) (C := RX6) (T := TX6) (N := 10) hx hb hts k2 tyX6 tyX6_ok nmX6 hown hK.1 hP hD hS 0 rfl rfl 6 (by decide) k3 (fun _ h9 => h9) rfl (by decide +kernel) rfl rfl (Nat.le_of_ble_eq_true rfl) dX6_begin_7 (fun H locs hP hD hS => ?_)
  have hP : va_P D vwCl [(h0, .inr (6, [.ref r_bytes, .int 0, .int r_faultKind, .int r_faultAt, .long r_letters, .int 200, .int 0, .int r_at, .int r_kind, .int r_number]))] H := hP
  have hD : va_D A [(h0, .inr (6, [.ref r_bytes, .int 0, .int r_faultKind, .int r_faultAt, .long r_letters, .int 200, .int 0, .int r_at, .int r_kind, .int r_number]))] := hD
  refine lv_aload_n hx hb dX6_begin_10 rfl (lv_at hl 0 rfl) ?_
  refine lv_iconst (v := 0) hx hb dX6_begin_11 (by decide) ?_
  refine va_put (D := D) (ci := 6) (v := .int 0) (ty := .int) (C := RX6) (T := TX6) (N := 10) hx hb hts k2 tyX6 tyX6_ok nmX6 hown hK.1 hP hD hS 0 rfl rfl 2 (by decide) k4 (fun _ h9 => h9) rfl (by decide +kernel) rfl rfl (Nat.le_of_ble_eq_true rfl) dX6_begin_12 (fun H locs hP hD hS => ?_)
  have hP : va_P D vwCl [(h0, .inr (6, [.ref r_bytes, .int 0, .int 0, .int r_faultAt, .long r_letters, .int 200, .int 0, .int r_at, .int r_kind, .int r_number]))] H := hP
  have hD : va_D A [(h0, .inr (6, [.ref r_bytes, .int 0, .int 0, .int r_faultAt, .long r_letters, .int 200, .int 0, .int r_at, .int r_kind, .int r_number]))] := hD
  refine lv_aload_n hx hb dX6_begin_15 rfl (lv_at hl 0 rfl) ?_
  refine lv_iconst (v := 0) hx hb dX6_begin_16 (by decide) ?_
  refine va_put (D := D) (ci := 6) (v := .int 0) (ty := .int) (C := RX6) (T := TX6) (N := 10) hx hb hts k2 tyX6 tyX6_ok nmX6 hown hK.1 hP hD hS 0 rfl rfl 3 (by decide) k5 (fun _ h9 => h9) rfl (by decide +kernel) rfl rfl (Nat.le_of_ble_eq_true rfl) dX6_begin_17 (fun H locs hP hD hS => ?_)
  have hP : va_P D vwCl [(h0, .inr (6, [.ref r_bytes, .int 0, .int 0, .int 0, .long r_letters, .int 200, .int 0, .int r_at, .int r_kind, .int r_number]))] H := hP
  have hD : va_D A [(h0, .inr (6, [.ref r_bytes, .int 0, .int 0, .int 0, .long r_letters, .int 200, .int 0, .int r_at, .int r_kind, .int r_number]))] := hD
  refine lv_aload_n hx hb dX6_begin_20 rfl (lv_at hl 0 rfl) ?_
  refine oC_v (Wc := [(h0, .inr (6, [.ref r_bytes, .int 0, .int 0, .int 0, .long r_letters, .int 200, .int 0, .int r_at, .int r_kind, .int r_number]))]) (Wr := []) (va_runV (As := []) (rest := []) ⟨hx, hb, hml, hown, hts⟩ (c_advance_200 l D ca H.size h0 r_bytes 0 r_letters r_at r_kind r_number) (cwV 0 hts gX6_begin_X6_advance rfl rfl rfl (by decide +kernel) ⟨Nat.le_of_ble_eq_true rfl, Nat.le_of_ble_eq_true rfl⟩) (oPV (C := RX6) hK hP hD [0] rfl (by decide) 0 rfl (ci := 6) rfl rfl) rfl rfl hl.1 rfl (lv_room (Nat.le_of_ble_eq_true rfl)) dX6_begin_21 ⟨Nat.le_of_ble_eq_true rfl, Nat.le_of_ble_eq_true rfl⟩) hP hD hS hA [0] [] rfl rfl (by decide) (by decide) (fun u H locs w_2 hP hD hS => ?_)
  obtain ⟨⟩ := u
  have hP : va_P D vwCl [(h0, .inr (6, [.ref r_bytes, .int 0, .int 0, .int 0, .long 0, .int 200, .int 0, .int 0, .int 1, .int r_number]))] H := hP
  have hD : va_D A [(h0, .inr (6, [.ref r_bytes, .int 0, .int 0, .int 0, .long 0, .int 200, .int 0, .int 0, .int 1, .int r_number]))] := hD
  exact oE_v hx hb hr hlocks hP hD hS () [0] rfl (by decide) trivial (Nat.le_of_ble_eq_true rfl) (Nat.le_of_ble_eq_true rfl) dX6_begin_24
theorem dX6_goesOn_0 : decode cX6_goesOn 0 = .ok (.aload_n 0, 1) := by decide +kernel
theorem dX6_goesOn_1 : decode cX6_goesOn 1 = .ok (.invokevirtual 34, 3) := by decide +kernel
theorem dX6_goesOn_4 : decode cX6_goesOn 4 = .ok (.ifCond .ne 15, 3) := by decide +kernel
theorem dX6_goesOn_7 : decode cX6_goesOn 7 = .ok (.aload_n 0, 1) := by decide +kernel
theorem dX6_goesOn_8 : decode cX6_goesOn 8 = .ok (.getfield 51, 3) := by decide +kernel
theorem dX6_goesOn_11 : decode cX6_goesOn 11 = .ok (.iconst 1, 1) := by decide +kernel
theorem dX6_goesOn_12 : decode cX6_goesOn 12 = .ok (.if_icmp .eq 7, 3) := by decide +kernel
theorem dX6_goesOn_19 : decode cX6_goesOn 19 = .ok (.iconst 0, 1) := by decide +kernel
theorem dX6_goesOn_20 : decode cX6_goesOn 20 = .ok (.ireturn, 1) := by decide +kernel
set_option maxRecDepth 20000 in
theorem ggX6_goesOn_X6_isBroken : GoodIn wsX6_goesOn wsX6_isBroken := goodIn_r _ [6, 7, 8, 9, 10, 11, 12, 13, 14, 15, 16, 17] rfl (by decide +kernel)
set_option maxRecDepth 20000 in
theorem gX6_goesOn_X6_isBroken : GoodIn wsX6_goesOn (wsV RX6 34 RX6 yX6_isBroken wsX6_isBroken) := goodIn_app (goodIn_of _ (by decide +kernel)) ggX6_goesOn_X6_isBroken
set_option maxHeartbeats 4000000 in
set_option maxRecDepth 100000 in
theorem c_goesOn (l : Launch) (D : va_G) (ca : Nat → ClassId) (sz : Nat) (h0 : Nat) (r_bytes : Nat) (r_length : Int32) (r_faultAt : Int32) (r_letters : Int64) (r_mostBytes : Int32) (r_behind : Int32) (r_at : Int32) (r_number : Int32)  : oMet l yX6_goesOn wsX6_goesOn ({ frames := 1, cells := 0, slots := 0, locals := 20 } : Room) [.ref h0] D ca sz [(h0, .inr (6, [.ref r_bytes, .int r_length, .int 0, .int r_faultAt, .long r_letters, .int r_mostBytes, .int r_behind, .int r_at, .int 1, .int r_number]))] (oQi D (fun (r : Int32) (u : Unit) => r = 0) (fun (u : Unit) => [(h0, .inr (6, [.ref r_bytes, .int r_length, .int 0, .int r_faultAt, .long r_letters, .int r_mostBytes, .int r_behind, .int r_at, .int 1, .int r_number]))])) 0 0 := by
  refine oM (cc := cX6_goesOn) (maxL := 1) (ret := (some .boolean)) (by decide) rfl (Nat.le_of_ble_eq_true rfl) [(0, .ref h0)] rfl ?_
  intro p e s m below meth c A H locs ls hx hb hr hml hts hown hlocks hin hK hP hD hA hS hl
  have hown : s.vm.findClass RX6 = some m.cls := hown
  have k1 := hts (.fieldLink RX6 51 "LidCourt$Reader" "kind" "I") (by decide +kernel)
  have k2 : ∀ w ∈ wsX60, w ∈ wsX6_goesOn := fun _ h => List.mem_cons_of_mem _ (List.mem_append_right _ h)
  refine lv_aload_n hx hb dX6_goesOn_0 rfl (lv_at hl 0 rfl) ?_
  refine oC_i (Wc := [(h0, .inr (6, [.ref r_bytes, .int r_length, .int 0, .int r_faultAt, .long r_letters, .int r_mostBytes, .int r_behind, .int r_at, .int 1, .int r_number]))]) (Wr := []) (va_runV (As := []) (rest := []) ⟨hx, hb, hml, hown, hts⟩ (c_isBroken l D ca H.size h0 r_bytes r_length r_faultAt r_letters r_mostBytes r_behind r_at 1 r_number) (cwV 0 hts gX6_goesOn_X6_isBroken rfl rfl rfl (by decide +kernel) ⟨Nat.le_of_ble_eq_true rfl, Nat.le_of_ble_eq_true rfl⟩) (oPV (C := RX6) hK hP hD [0] rfl (by decide) 0 rfl (ci := 6) rfl rfl) rfl rfl hl.1 rfl (lv_room (Nat.le_of_ble_eq_true rfl)) dX6_goesOn_1 ⟨Nat.le_of_ble_eq_true rfl, Nat.le_of_ble_eq_true rfl⟩) hP hD hS hA [0] [] rfl rfl (by decide) (by decide) (fun r_1 u H locs w_2 hP hD hS => ?_)
  obtain ⟨⟩ := u
  try dsimp only at w_2
  subst w_2
  have hP : va_P D vwCl [(h0, .inr (6, [.ref r_bytes, .int r_length, .int 0, .int r_faultAt, .long r_letters, .int r_mostBytes, .int r_behind, .int r_at, .int 1, .int r_number]))] H := hP
  have hD : va_D A [(h0, .inr (6, [.ref r_bytes, .int r_length, .int 0, .int r_faultAt, .long r_letters, .int r_mostBytes, .int r_behind, .int r_at, .int 1, .int r_number]))] := hD
  refine lv_if_ne (tgt := 19) hx hb dX6_goesOn_4 (by decide) (fun c => absurd (by decide) c) (fun _ => ?_)
  refine lv_aload_n hx hb dX6_goesOn_7 rfl (lv_at hl 0 rfl) ?_
  refine va_get (D := D) (ci := 6) (v := .int 1) (C := RX6) (T := TX6) (N := 10) hx hb hts k2 hown hK.1 hP 0 rfl rfl 8 (by decide) k1 (fun _ h9 => h9) rfl dX6_goesOn_8 ?_
  refine lv_iconst (v := 1) hx hb dX6_goesOn_11 (by decide) ?_
  refine lv_icmp_eq (tgt := 19) hx hb dX6_goesOn_12 (by decide) (fun _ => ?_) (fun c => absurd (by decide) c)
  refine lv_iconst (v := 0) hx hb dX6_goesOn_19 (by decide) ?_
  exact oE_i hx hb hr (by decide) hlocks hP hD hS () [0] rfl (by decide) rfl (Nat.le_of_ble_eq_true rfl) (Nat.le_of_ble_eq_true rfl) dX6_goesOn_20
theorem dX6_append_0 : decode cX6_append 0 = .ok (.bipush 24, 2) := by decide +kernel
theorem dX6_append_2 : decode cX6_append 2 = .ok (.istore_n 2, 1) := by decide +kernel
theorem dX6_append_3 : decode cX6_append 3 = .ok (.iload_n 2, 1) := by decide +kernel
theorem dX6_append_4 : decode cX6_append 4 = .ok (.ifCond .lt 45, 3) := by decide +kernel
theorem dX6_append_7 : decode cX6_append 7 = .ok (.aload_n 0, 1) := by decide +kernel
theorem dX6_append_8 : decode cX6_append 8 = .ok (.getfield 15, 3) := by decide +kernel
theorem dX6_append_11 : decode cX6_append 11 = .ok (.sipush 940, 3) := by decide +kernel
theorem dX6_append_14 : decode cX6_append 14 = .ok (.if_icmp .ge 35, 3) := by decide +kernel
theorem dX6_append_17 : decode cX6_append 17 = .ok (.aload_n 0, 1) := by decide +kernel
theorem dX6_append_18 : decode cX6_append 18 = .ok (.getfield 9, 3) := by decide +kernel
theorem dX6_append_21 : decode cX6_append 21 = .ok (.aload_n 0, 1) := by decide +kernel
theorem dX6_append_22 : decode cX6_append 22 = .ok (.getfield 15, 3) := by decide +kernel
theorem dX6_append_25 : decode cX6_append 25 = .ok (.iload_n 1, 1) := by decide +kernel
theorem dX6_append_26 : decode cX6_append 26 = .ok (.iload_n 2, 1) := by decide +kernel
theorem dX6_append_27 : decode cX6_append 27 = .ok (.iushr, 1) := by decide +kernel
theorem dX6_append_28 : decode cX6_append 28 = .ok (.sipush 255, 3) := by decide +kernel
theorem dX6_append_31 : decode cX6_append 31 = .ok (.iand, 1) := by decide +kernel
theorem dX6_append_32 : decode cX6_append 32 = .ok (.iastore, 1) := by decide +kernel
theorem dX6_append_33 : decode cX6_append 33 = .ok (.aload_n 0, 1) := by decide +kernel
theorem dX6_append_34 : decode cX6_append 34 = .ok (.dup, 1) := by decide +kernel
theorem dX6_append_35 : decode cX6_append 35 = .ok (.getfield 15, 3) := by decide +kernel
theorem dX6_append_38 : decode cX6_append 38 = .ok (.iconst 1, 1) := by decide +kernel
theorem dX6_append_39 : decode cX6_append 39 = .ok (.iadd, 1) := by decide +kernel
theorem dX6_append_40 : decode cX6_append 40 = .ok (.putfield 15, 3) := by decide +kernel
theorem dX6_append_43 : decode cX6_append 43 = .ok (.iinc 2 (-8), 3) := by decide +kernel
theorem dX6_append_46 : decode cX6_append 46 = .ok (.goto (-43), 3) := by decide +kernel
theorem dX6_append_49 : decode cX6_append 49 = .ok (.return_, 1) := by decide +kernel
set_option maxHeartbeats 4000000 in
set_option maxRecDepth 100000 in
theorem c_append_0 (l : Launch) (D : va_G) (ca : Nat → ClassId) (sz : Nat) (h0 : Nat) (p0 : Int32) (r_bytes : Nat) (r_faultKind : Int32) (r_faultAt : Int32) (r_letters : Int64) (r_mostBytes : Int32) (r_behind : Int32) (r_at : Int32) (r_kind : Int32) (r_number : Int32) (fb : Nat → Int32)  : oMet l yX6_append wsX6_append ({ frames := 0, cells := 0, slots := 0, locals := 0 } : Room) [.ref h0, .int p0] D ca sz [(h0, .inr (6, [.ref r_bytes, .int 0, .int r_faultKind, .int r_faultAt, .long r_letters, .int r_mostBytes, .int r_behind, .int r_at, .int r_kind, .int r_number])), (aI ca r_bytes 940 fb)] (oQv D (fun (u : (Nat → Int32)) => True) (fun (u : (Nat → Int32)) => [(h0, .inr (6, [.ref r_bytes, .int 4, .int r_faultKind, .int r_faultAt, .long r_letters, .int r_mostBytes, .int r_behind, .int r_at, .int r_kind, .int r_number])), (aI ca r_bytes 940 u)])) 0 0 := by
  refine oM (cc := cX6_append) (maxL := 3) (ret := none) (by decide) rfl (Nat.le_of_ble_eq_true rfl) [(0, .ref h0), (1, .int p0)] rfl ?_
  intro p e s m below meth c A H locs ls hx hb hr hml hts hown hlocks hin hK hP hD hA hS hl
  have hown : s.vm.findClass RX6 = some m.cls := hown
  have k1 := hts (.fieldLink RX6 15 "LidCourt$Reader" "length" "I") (by decide +kernel)
  have k2 : ∀ w ∈ wsX60, w ∈ wsX6_append := fun _ h => List.mem_cons_of_mem _ (List.mem_append_right _ h)
  have k3 := hts (.fieldLink RX6 9 "LidCourt$Reader" "bytes" "[I") (by decide +kernel)
  refine lv_bipush (v := 24) hx hb dX6_append_0 (by decide) ?_
  refine lv_istore_n (lv' := [(2, .int 24), (0, .ref h0), (1, .int p0)]) hx hb dX6_append_2 rfl hl (by decide) rfl (fun ls hl => ?_)
  refine lv_iload_n hx hb dX6_append_3 rfl (lv_at hl 0 rfl) ?_
  refine lv_if_lt (tgt := 49) hx hb dX6_append_4 (by decide) (fun c => absurd c (by decide)) (fun _ => ?_)
  refine lv_aload_n hx hb dX6_append_7 rfl (lv_at hl 1 rfl) ?_
  refine va_get (D := D) (ci := 6) (v := .int 0) (C := RX6) (T := TX6) (N := 10) hx hb hts k2 hown hK.1 hP 0 rfl rfl 1 (by decide) k1 (fun _ h9 => h9) rfl dX6_append_8 ?_
  refine lv_sipush (v := 940) hx hb dX6_append_11 (by decide) ?_
  refine lv_icmp_ge (tgt := 49) hx hb dX6_append_14 (by decide) (fun c => absurd c (by decide)) (fun _ => ?_)
  refine lv_aload_n hx hb dX6_append_17 rfl (lv_at hl 1 rfl) ?_
  refine va_get (D := D) (ci := 6) (v := .ref r_bytes) (C := RX6) (T := TX6) (N := 10) hx hb hts k2 hown hK.1 hP 0 rfl rfl 0 (by decide) k3 (fun _ h9 => h9) rfl dX6_append_18 ?_
  refine lv_aload_n hx hb dX6_append_21 rfl (lv_at hl 1 rfl) ?_
  refine va_get (D := D) (ci := 6) (v := .int 0) (C := RX6) (T := TX6) (N := 10) hx hb hts k2 hown hK.1 hP 0 rfl rfl 1 (by decide) k1 (fun _ h9 => h9) rfl dX6_append_22 ?_
  refine lv_iload_n hx hb dX6_append_25 rfl (lv_at hl 2 rfl) ?_
  refine lv_iload_n hx hb dX6_append_26 rfl (lv_at hl 0 rfl) ?_
  refine lv_iushr hx hb dX6_append_27 rfl ?_
  refine lv_topi (fun x_1 ex_1 => ?_)
  refine lv_sipush (v := 255) hx hb dX6_append_28 (by decide) ?_
  refine lv_iand hx hb dX6_append_31 ?_
  refine lv_topi (fun x_2 ex_2 => ?_)
  refine va_iast hx hb hK.1 hP hD hS 1 0 rfl rfl (oin (k := 0) (by decide) (by decide) rfl) dX6_append_32 (fun H locs hP hD hS => ?_)
  obtain ⟨g_3, eg_3⟩ : ∃ y : Nat → Int32, y = upd fb (0 : Int32).toNatClampNeg x_2 := ⟨_, rfl⟩
  rw [← eg_3] at hP hD
  have eg_3 : g_3 = upd fb 0 x_2 := eg_3.trans (oze fb 0 x_2 rfl (by decide))
  have hP : va_P D vwCl [(h0, .inr (6, [.ref r_bytes, .int 0, .int r_faultKind, .int r_faultAt, .long r_letters, .int r_mostBytes, .int r_behind, .int r_at, .int r_kind, .int r_number])), (aI ca r_bytes 940 g_3)] H := hP
  have hD : va_D A [(h0, .inr (6, [.ref r_bytes, .int 0, .int r_faultKind, .int r_faultAt, .long r_letters, .int r_mostBytes, .int r_behind, .int r_at, .int r_kind, .int r_number])), (aI ca r_bytes 940 g_3)] := hD
  refine lv_aload_n hx hb dX6_append_33 rfl (lv_at hl 1 rfl) ?_
  refine lv_dup hx hb dX6_append_34 rfl ?_
  refine va_get (D := D) (ci := 6) (v := .int 0) (C := RX6) (T := TX6) (N := 10) hx hb hts k2 hown hK.1 hP 0 rfl rfl 1 (by decide) k1 (fun _ h9 => h9) rfl dX6_append_35 ?_
  refine lv_iconst (v := 1) hx hb dX6_append_38 (by decide) ?_
  refine lv_iadd hx hb dX6_append_39 ?_
  refine oti 1 (by decide) ?_
  refine va_put (D := D) (ci := 6) (v := .int 1) (ty := .int) (C := RX6) (T := TX6) (N := 10) hx hb hts k2 tyX6 tyX6_ok nmX6 hown hK.1 hP hD hS 0 rfl rfl 1 (by decide) k1 (fun _ h9 => h9) rfl (by decide +kernel) rfl rfl (Nat.le_of_ble_eq_true rfl) dX6_append_40 (fun H locs hP hD hS => ?_)
  have hP : va_P D vwCl [(h0, .inr (6, [.ref r_bytes, .int 1, .int r_faultKind, .int r_faultAt, .long r_letters, .int r_mostBytes, .int r_behind, .int r_at, .int r_kind, .int r_number])), (aI ca r_bytes 940 g_3)] H := hP
  have hD : va_D A [(h0, .inr (6, [.ref r_bytes, .int 1, .int r_faultKind, .int r_faultAt, .long r_letters, .int r_mostBytes, .int r_behind, .int r_at, .int r_kind, .int r_number])), (aI ca r_bytes 940 g_3)] := hD
  refine lv_iinc (v := 16) (lv' := [(2, .int 16), (0, .ref h0), (1, .int p0)]) hx hb dX6_append_43 hl (k := 0) rfl (by decide) (by decide) rfl (fun ls hl => ?_)
  refine lv_goto (tgt := 3) hx hb dX6_append_46 (by decide) ?_
  refine lv_iload_n hx hb dX6_append_3 rfl (lv_at hl 0 rfl) ?_
  refine lv_if_lt (tgt := 49) hx hb dX6_append_4 (by decide) (fun c => absurd c (by decide)) (fun _ => ?_)
  refine lv_aload_n hx hb dX6_append_7 rfl (lv_at hl 1 rfl) ?_
  refine va_get (D := D) (ci := 6) (v := .int 1) (C := RX6) (T := TX6) (N := 10) hx hb hts k2 hown hK.1 hP 0 rfl rfl 1 (by decide) k1 (fun _ h9 => h9) rfl dX6_append_8 ?_
  refine lv_sipush (v := 940) hx hb dX6_append_11 (by decide) ?_
  refine lv_icmp_ge (tgt := 49) hx hb dX6_append_14 (by decide) (fun c => absurd c (by decide)) (fun _ => ?_)
  refine lv_aload_n hx hb dX6_append_17 rfl (lv_at hl 1 rfl) ?_
  refine va_get (D := D) (ci := 6) (v := .ref r_bytes) (C := RX6) (T := TX6) (N := 10) hx hb hts k2 hown hK.1 hP 0 rfl rfl 0 (by decide) k3 (fun _ h9 => h9) rfl dX6_append_18 ?_
  refine lv_aload_n hx hb dX6_append_21 rfl (lv_at hl 1 rfl) ?_
  refine va_get (D := D) (ci := 6) (v := .int 1) (C := RX6) (T := TX6) (N := 10) hx hb hts k2 hown hK.1 hP 0 rfl rfl 1 (by decide) k1 (fun _ h9 => h9) rfl dX6_append_22 ?_
  refine lv_iload_n hx hb dX6_append_25 rfl (lv_at hl 2 rfl) ?_
  refine lv_iload_n hx hb dX6_append_26 rfl (lv_at hl 0 rfl) ?_
  refine lv_iushr hx hb dX6_append_27 rfl ?_
  refine lv_topi (fun x_4 ex_4 => ?_)
  refine lv_sipush (v := 255) hx hb dX6_append_28 (by decide) ?_
  refine lv_iand hx hb dX6_append_31 ?_
  refine lv_topi (fun x_5 ex_5 => ?_)
  refine va_iast hx hb hK.1 hP hD hS 1 0 rfl rfl (oin (k := 1) (by decide) (by decide) rfl) dX6_append_32 (fun H locs hP hD hS => ?_)
  obtain ⟨g_6, eg_6⟩ : ∃ y : Nat → Int32, y = upd g_3 (1 : Int32).toNatClampNeg x_5 := ⟨_, rfl⟩
  rw [← eg_6] at hP hD
  have eg_6 : g_6 = upd g_3 1 x_5 := eg_6.trans (oze g_3 1 x_5 rfl (by decide))
  have hP : va_P D vwCl [(h0, .inr (6, [.ref r_bytes, .int 1, .int r_faultKind, .int r_faultAt, .long r_letters, .int r_mostBytes, .int r_behind, .int r_at, .int r_kind, .int r_number])), (aI ca r_bytes 940 g_6)] H := hP
  have hD : va_D A [(h0, .inr (6, [.ref r_bytes, .int 1, .int r_faultKind, .int r_faultAt, .long r_letters, .int r_mostBytes, .int r_behind, .int r_at, .int r_kind, .int r_number])), (aI ca r_bytes 940 g_6)] := hD
  refine lv_aload_n hx hb dX6_append_33 rfl (lv_at hl 1 rfl) ?_
  refine lv_dup hx hb dX6_append_34 rfl ?_
  refine va_get (D := D) (ci := 6) (v := .int 1) (C := RX6) (T := TX6) (N := 10) hx hb hts k2 hown hK.1 hP 0 rfl rfl 1 (by decide) k1 (fun _ h9 => h9) rfl dX6_append_35 ?_
  refine lv_iconst (v := 1) hx hb dX6_append_38 (by decide) ?_
  refine lv_iadd hx hb dX6_append_39 ?_
  refine oti 2 (by decide) ?_
  refine va_put (D := D) (ci := 6) (v := .int 2) (ty := .int) (C := RX6) (T := TX6) (N := 10) hx hb hts k2 tyX6 tyX6_ok nmX6 hown hK.1 hP hD hS 0 rfl rfl 1 (by decide) k1 (fun _ h9 => h9) rfl (by decide +kernel) rfl rfl (Nat.le_of_ble_eq_true rfl) dX6_append_40 (fun H locs hP hD hS => ?_)
  have hP : va_P D vwCl [(h0, .inr (6, [.ref r_bytes, .int 2, .int r_faultKind, .int r_faultAt, .long r_letters, .int r_mostBytes, .int r_behind, .int r_at, .int r_kind, .int r_number])), (aI ca r_bytes 940 g_6)] H := hP
  have hD : va_D A [(h0, .inr (6, [.ref r_bytes, .int 2, .int r_faultKind, .int r_faultAt, .long r_letters, .int r_mostBytes, .int r_behind, .int r_at, .int r_kind, .int r_number])), (aI ca r_bytes 940 g_6)] := hD
  refine lv_iinc (v := 8) (lv' := [(2, .int 8), (0, .ref h0), (1, .int p0)]) hx hb dX6_append_43 hl (k := 0) rfl (by decide) (by decide) rfl (fun ls hl => ?_)
  refine lv_goto (tgt := 3) hx hb dX6_append_46 (by decide) ?_
  refine lv_iload_n hx hb dX6_append_3 rfl (lv_at hl 0 rfl) ?_
  refine lv_if_lt (tgt := 49) hx hb dX6_append_4 (by decide) (fun c => absurd c (by decide)) (fun _ => ?_)
  refine lv_aload_n hx hb dX6_append_7 rfl (lv_at hl 1 rfl) ?_
  refine va_get (D := D) (ci := 6) (v := .int 2) (C := RX6) (T := TX6) (N := 10) hx hb hts k2 hown hK.1 hP 0 rfl rfl 1 (by decide) k1 (fun _ h9 => h9) rfl dX6_append_8 ?_
  refine lv_sipush (v := 940) hx hb dX6_append_11 (by decide) ?_
  refine lv_icmp_ge (tgt := 49) hx hb dX6_append_14 (by decide) (fun c => absurd c (by decide)) (fun _ => ?_)
  refine lv_aload_n hx hb dX6_append_17 rfl (lv_at hl 1 rfl) ?_
  refine va_get (D := D) (ci := 6) (v := .ref r_bytes) (C := RX6) (T := TX6) (N := 10) hx hb hts k2 hown hK.1 hP 0 rfl rfl 0 (by decide) k3 (fun _ h9 => h9) rfl dX6_append_18 ?_
  refine lv_aload_n hx hb dX6_append_21 rfl (lv_at hl 1 rfl) ?_
  refine va_get (D := D) (ci := 6) (v := .int 2) (C := RX6) (T := TX6) (N := 10) hx hb hts k2 hown hK.1 hP 0 rfl rfl 1 (by decide) k1 (fun _ h9 => h9) rfl dX6_append_22 ?_
  refine lv_iload_n hx hb dX6_append_25 rfl (lv_at hl 2 rfl) ?_
  refine lv_iload_n hx hb dX6_append_26 rfl (lv_at hl 0 rfl) ?_
  refine lv_iushr hx hb dX6_append_27 rfl ?_
  refine lv_topi (fun x_7 ex_7 => ?_)
  refine lv_sipush (v := 255) hx hb dX6_append_28 (by decide) ?_
  refine lv_iand hx hb dX6_append_31 ?_
  refine lv_topi (fun x_8 ex_8 => ?_)
  refine va_iast hx hb hK.1 hP hD hS 1 0 rfl rfl (oin (k := 2) (by decide) (by decide) rfl) dX6_append_32 (fun H locs hP hD hS => ?_)
  obtain ⟨g_9, eg_9⟩ : ∃ y : Nat → Int32, y = upd g_6 (2 : Int32).toNatClampNeg x_8 := ⟨_, rfl⟩
  rw [← eg_9] at hP hD
  have eg_9 : g_9 = upd g_6 2 x_8 := eg_9.trans (oze g_6 2 x_8 rfl (by decide))
  have hP : va_P D vwCl [(h0, .inr (6, [.ref r_bytes, .int 2, .int r_faultKind, .int r_faultAt, .long r_letters, .int r_mostBytes, .int r_behind, .int r_at, .int r_kind, .int r_number])), (aI ca r_bytes 940 g_9)] H := hP
  have hD : va_D A [(h0, .inr (6, [.ref r_bytes, .int 2, .int r_faultKind, .int r_faultAt, .long r_letters, .int r_mostBytes, .int r_behind, .int r_at, .int r_kind, .int r_number])), (aI ca r_bytes 940 g_9)] := hD
  refine lv_aload_n hx hb dX6_append_33 rfl (lv_at hl 1 rfl) ?_
  refine lv_dup hx hb dX6_append_34 rfl ?_
  refine va_get (D := D) (ci := 6) (v := .int 2) (C := RX6) (T := TX6) (N := 10) hx hb hts k2 hown hK.1 hP 0 rfl rfl 1 (by decide) k1 (fun _ h9 => h9) rfl dX6_append_35 ?_
  refine lv_iconst (v := 1) hx hb dX6_append_38 (by decide) ?_
  refine lv_iadd hx hb dX6_append_39 ?_
  refine oti 3 (by decide) ?_
  refine va_put (D := D) (ci := 6) (v := .int 3) (ty := .int) (C := RX6) (T := TX6) (N := 10) hx hb hts k2 tyX6 tyX6_ok nmX6 hown hK.1 hP hD hS 0 rfl rfl 1 (by decide) k1 (fun _ h9 => h9) rfl (by decide +kernel) rfl rfl (Nat.le_of_ble_eq_true rfl) dX6_append_40 (fun H locs hP hD hS => ?_)
  have hP : va_P D vwCl [(h0, .inr (6, [.ref r_bytes, .int 3, .int r_faultKind, .int r_faultAt, .long r_letters, .int r_mostBytes, .int r_behind, .int r_at, .int r_kind, .int r_number])), (aI ca r_bytes 940 g_9)] H := hP
  have hD : va_D A [(h0, .inr (6, [.ref r_bytes, .int 3, .int r_faultKind, .int r_faultAt, .long r_letters, .int r_mostBytes, .int r_behind, .int r_at, .int r_kind, .int r_number])), (aI ca r_bytes 940 g_9)] := hD
  refine lv_iinc (v := 0) (lv' := [(2, .int 0), (0, .ref h0), (1, .int p0)]) hx hb dX6_append_43 hl (k := 0) rfl (by decide) (by decide) rfl (fun ls hl => ?_)
  refine lv_goto (tgt := 3) hx hb dX6_append_46 (by decide) ?_
  refine lv_iload_n hx hb dX6_append_3 rfl (lv_at hl 0 rfl) ?_
  refine lv_if_lt (tgt := 49) hx hb dX6_append_4 (by decide) (fun c => absurd c (by decide)) (fun _ => ?_)
  refine lv_aload_n hx hb dX6_append_7 rfl (lv_at hl 1 rfl) ?_
  refine va_get (D := D) (ci := 6) (v := .int 3) (C := RX6) (T := TX6) (N := 10) hx hb hts k2 hown hK.1 hP 0 rfl rfl 1 (by decide) k1 (fun _ h9 => h9) rfl dX6_append_8 ?_
  refine lv_sipush (v := 940) hx hb dX6_append_11 (by decide) ?_
  refine lv_icmp_ge (tgt := 49) hx hb dX6_append_14 (by decide) (fun c => absurd c (by decide)) (fun _ => ?_)
  refine lv_aload_n hx hb dX6_append_17 rfl (lv_at hl 1 rfl) ?_
  refine va_get (D := D) (ci := 6) (v := .ref r_bytes) (C := RX6) (T := TX6) (N := 10) hx hb hts k2 hown hK.1 hP 0 rfl rfl 0 (by decide) k3 (fun _ h9 => h9) rfl dX6_append_18 ?_
  refine lv_aload_n hx hb dX6_append_21 rfl (lv_at hl 1 rfl) ?_
  refine va_get (D := D) (ci := 6) (v := .int 3) (C := RX6) (T := TX6) (N := 10) hx hb hts k2 hown hK.1 hP 0 rfl rfl 1 (by decide) k1 (fun _ h9 => h9) rfl dX6_append_22 ?_
  refine lv_iload_n hx hb dX6_append_25 rfl (lv_at hl 2 rfl) ?_
  refine lv_iload_n hx hb dX6_append_26 rfl (lv_at hl 0 rfl) ?_
  refine lv_iushr hx hb dX6_append_27 rfl ?_
  refine lv_topi (fun x_10 ex_10 => ?_)
  refine lv_sipush (v := 255) hx hb dX6_append_28 (by decide) ?_
  refine lv_iand hx hb dX6_append_31 ?_
  refine lv_topi (fun x_11 ex_11 => ?_)
  refine va_iast hx hb hK.1 hP hD hS 1 0 rfl rfl (oin (k := 3) (by decide) (by decide) rfl) dX6_append_32 (fun H locs hP hD hS => ?_)
  obtain ⟨g_12, eg_12⟩ : ∃ y : Nat → Int32, y = upd g_9 (3 : Int32).toNatClampNeg x_11 := ⟨_, rfl⟩
  rw [← eg_12] at hP hD
  have eg_12 : g_12 = upd g_9 3 x_11 := eg_12.trans (oze g_9 3 x_11 rfl (by decide))
  have hP : va_P D vwCl [(h0, .inr (6, [.ref r_bytes, .int 3, .int r_faultKind, .int r_faultAt, .long r_letters, .int r_mostBytes, .int r_behind, .int r_at, .int r_kind, .int r_number])), (aI ca r_bytes 940 g_12)] H := hP
  have hD : va_D A [(h0, .inr (6, [.ref r_bytes, .int 3, .int r_faultKind, .int r_faultAt, .long r_letters, .int r_mostBytes, .int r_behind, .int r_at, .int r_kind, .int r_number])), (aI ca r_bytes 940 g_12)] := hD
  refine lv_aload_n hx hb dX6_append_33 rfl (lv_at hl 1 rfl) ?_
  refine lv_dup hx hb dX6_append_34 rfl ?_
  refine va_get (D := D) (ci := 6) (v := .int 3) (C := RX6) (T := TX6) (N := 10) hx hb hts k2 hown hK.1 hP 0 rfl rfl 1 (by decide) k1 (fun _ h9 => h9) rfl dX6_append_35 ?_
  refine lv_iconst (v := 1) hx hb dX6_append_38 (by decide) ?_
  refine lv_iadd hx hb dX6_append_39 ?_
  refine oti 4 (by decide) ?_
  refine va_put (D := D) (ci := 6) (v := .int 4) (ty := .int) (C := RX6) (T := TX6) (N := 10) hx hb hts k2 tyX6 tyX6_ok nmX6 hown hK.1 hP hD hS 0 rfl rfl 1 (by decide) k1 (fun _ h9 => h9) rfl (by decide +kernel) rfl rfl (Nat.le_of_ble_eq_true rfl) dX6_append_40 (fun H locs hP hD hS => ?_)
  have hP : va_P D vwCl [(h0, .inr (6, [.ref r_bytes, .int 4, .int r_faultKind, .int r_faultAt, .long r_letters, .int r_mostBytes, .int r_behind, .int r_at, .int r_kind, .int r_number])), (aI ca r_bytes 940 g_12)] H := hP
  have hD : va_D A [(h0, .inr (6, [.ref r_bytes, .int 4, .int r_faultKind, .int r_faultAt, .long r_letters, .int r_mostBytes, .int r_behind, .int r_at, .int r_kind, .int r_number])), (aI ca r_bytes 940 g_12)] := hD
  refine lv_iinc (v := (-8)) (lv' := [(2, .int (-8)), (0, .ref h0), (1, .int p0)]) hx hb dX6_append_43 hl (k := 0) rfl (by decide) (by decide) rfl (fun ls hl => ?_)
  refine lv_goto (tgt := 3) hx hb dX6_append_46 (by decide) ?_
  refine lv_iload_n hx hb dX6_append_3 rfl (lv_at hl 0 rfl) ?_
  refine lv_if_lt (tgt := 49) hx hb dX6_append_4 (by decide) (fun _ => ?_) (fun c => absurd (by decide) c)
  exact oE_v hx hb hr hlocks hP hD hS g_12 [0, 1] rfl (by decide) trivial (Nat.le_of_ble_eq_true rfl) (Nat.le_of_ble_eq_true rfl) dX6_append_49
set_option maxHeartbeats 4000000 in
set_option maxRecDepth 100000 in
theorem c_append_4 (l : Launch) (D : va_G) (ca : Nat → ClassId) (sz : Nat) (h0 : Nat) (p0 : Int32) (r_bytes : Nat) (r_faultKind : Int32) (r_faultAt : Int32) (r_letters : Int64) (r_mostBytes : Int32) (r_behind : Int32) (r_at : Int32) (r_kind : Int32) (r_number : Int32) (fb : Nat → Int32)  : oMet l yX6_append wsX6_append ({ frames := 0, cells := 0, slots := 0, locals := 0 } : Room) [.ref h0, .int p0] D ca sz [(h0, .inr (6, [.ref r_bytes, .int 4, .int r_faultKind, .int r_faultAt, .long r_letters, .int r_mostBytes, .int r_behind, .int r_at, .int r_kind, .int r_number])), (aI ca r_bytes 940 fb)] (oQv D (fun (u : (Nat → Int32)) => True) (fun (u : (Nat → Int32)) => [(h0, .inr (6, [.ref r_bytes, .int 8, .int r_faultKind, .int r_faultAt, .long r_letters, .int r_mostBytes, .int r_behind, .int r_at, .int r_kind, .int r_number])), (aI ca r_bytes 940 u)])) 0 0 := by
  refine oM (cc := cX6_append) (maxL := 3) (ret := none) (by decide) rfl (Nat.le_of_ble_eq_true rfl) [(0, .ref h0), (1, .int p0)] rfl ?_
  intro p e s m below meth c A H locs ls hx hb hr hml hts hown hlocks hin hK hP hD hA hS hl
  have hown : s.vm.findClass RX6 = some m.cls := hown
  have k1 := hts (.fieldLink RX6 15 "LidCourt$Reader" "length" "I") (by decide +kernel)
  have k2 : ∀ w ∈ wsX60, w ∈ wsX6_append := fun _ h => List.mem_cons_of_mem _ (List.mem_append_right _ h)
  have k3 := hts (.fieldLink RX6 9 "LidCourt$Reader" "bytes" "[I") (by decide +kernel)
  refine lv_bipush (v := 24) hx hb dX6_append_0 (by decide) ?_
  refine lv_istore_n (lv' := [(2, .int 24), (0, .ref h0), (1, .int p0)]) hx hb dX6_append_2 rfl hl (by decide) rfl (fun ls hl => ?_)
  refine lv_iload_n hx hb dX6_append_3 rfl (lv_at hl 0 rfl) ?_
  refine lv_if_lt (tgt := 49) hx hb dX6_append_4 (by decide) (fun c => absurd c (by decide)) (fun _ => ?_)
  refine lv_aload_n hx hb dX6_append_7 rfl (lv_at hl 1 rfl) ?_
  refine va_get (D := D) (ci := 6) (v := .int 4) (C := RX6) (T := TX6) (N := 10) hx hb hts k2 hown hK.1 hP 0 rfl rfl 1 (by decide) k1 (fun _ h9 => h9) rfl dX6_append_8 ?_
  refine lv_sipush (v := 940) hx hb dX6_append_11 (by decide) ?_
  refine lv_icmp_ge (tgt := 49) hx hb dX6_append_14 (by decide) (fun c => absurd c (by decide)) (fun _ => ?_)
  refine lv_aload_n hx hb dX6_append_17 rfl (lv_at hl 1 rfl) ?_
  refine va_get (D := D) (ci := 6) (v := .ref r_bytes) (C := RX6) (T := TX6) (N := 10) hx hb hts k2 hown hK.1 hP 0 rfl rfl 0 (by decide) k3 (fun _ h9 => h9) rfl dX6_append_18 ?_
  refine lv_aload_n hx hb dX6_append_21 rfl (lv_at hl 1 rfl) ?_
  refine va_get (D := D) (ci := 6) (v := .int 4) (C := RX6) (T := TX6) (N := 10) hx hb hts k2 hown hK.1 hP 0 rfl rfl 1 (by decide) k1 (fun _ h9 => h9) rfl dX6_append_22 ?_
  refine lv_iload_n hx hb dX6_append_25 rfl (lv_at hl 2 rfl) ?_
  refine lv_iload_n hx hb dX6_append_26 rfl (lv_at hl 0 rfl) ?_
  refine lv_iushr hx hb dX6_append_27 rfl ?_
  refine lv_topi (fun x_1 ex_1 => ?_)
  refine lv_sipush (v := 255) hx hb dX6_append_28 (by decide) ?_
  refine lv_iand hx hb dX6_append_31 ?_
  refine lv_topi (fun x_2 ex_2 => ?_)
  refine va_iast hx hb hK.1 hP hD hS 1 0 rfl rfl (oin (k := 4) (by decide) (by decide) rfl) dX6_append_32 (fun H locs hP hD hS => ?_)
  obtain ⟨g_3, eg_3⟩ : ∃ y : Nat → Int32, y = upd fb (4 : Int32).toNatClampNeg x_2 := ⟨_, rfl⟩
  rw [← eg_3] at hP hD
  have eg_3 : g_3 = upd fb 4 x_2 := eg_3.trans (oze fb 4 x_2 rfl (by decide))
  have hP : va_P D vwCl [(h0, .inr (6, [.ref r_bytes, .int 4, .int r_faultKind, .int r_faultAt, .long r_letters, .int r_mostBytes, .int r_behind, .int r_at, .int r_kind, .int r_number])), (aI ca r_bytes 940 g_3)] H := hP
  have hD : va_D A [(h0, .inr (6, [.ref r_bytes, .int 4, .int r_faultKind, .int r_faultAt, .long r_letters, .int r_mostBytes, .int r_behind, .int r_at, .int r_kind, .int r_number])), (aI ca r_bytes 940 g_3)] := hD
  refine lv_aload_n hx hb dX6_append_33 rfl (lv_at hl 1 rfl) ?_
  refine lv_dup hx hb dX6_append_34 rfl ?_
  refine va_get (D := D) (ci := 6) (v := .int 4) (C := RX6) (T := TX6) (N := 10) hx hb hts k2 hown hK.1 hP 0 rfl rfl 1 (by decide) k1 (fun _ h9 => h9) rfl dX6_append_35 ?_
  refine lv_iconst (v := 1) hx hb dX6_append_38 (by decide) ?_
  refine lv_iadd hx hb dX6_append_39 ?_
  refine oti 5 (by decide) ?_
  refine va_put (D := D) (ci := 6) (v := .int 5) (ty := .int) (C := RX6) (T := TX6) (N := 10) hx hb hts k2 tyX6 tyX6_ok nmX6 hown hK.1 hP hD hS 0 rfl rfl 1 (by decide) k1 (fun _ h9 => h9) rfl (by decide +kernel) rfl rfl (Nat.le_of_ble_eq_true rfl) dX6_append_40 (fun H locs hP hD hS => ?_)
  have hP : va_P D vwCl [(h0, .inr (6, [.ref r_bytes, .int 5, .int r_faultKind, .int r_faultAt, .long r_letters, .int r_mostBytes, .int r_behind, .int r_at, .int r_kind, .int r_number])), (aI ca r_bytes 940 g_3)] H := hP
  have hD : va_D A [(h0, .inr (6, [.ref r_bytes, .int 5, .int r_faultKind, .int r_faultAt, .long r_letters, .int r_mostBytes, .int r_behind, .int r_at, .int r_kind, .int r_number])), (aI ca r_bytes 940 g_3)] := hD
  refine lv_iinc (v := 16) (lv' := [(2, .int 16), (0, .ref h0), (1, .int p0)]) hx hb dX6_append_43 hl (k := 0) rfl (by decide) (by decide) rfl (fun ls hl => ?_)
  refine lv_goto (tgt := 3) hx hb dX6_append_46 (by decide) ?_
  refine lv_iload_n hx hb dX6_append_3 rfl (lv_at hl 0 rfl) ?_
  refine lv_if_lt (tgt := 49) hx hb dX6_append_4 (by decide) (fun c => absurd c (by decide)) (fun _ => ?_)
  refine lv_aload_n hx hb dX6_append_7 rfl (lv_at hl 1 rfl) ?_
  refine va_get (D := D) (ci := 6) (v := .int 5) (C := RX6) (T := TX6) (N := 10) hx hb hts k2 hown hK.1 hP 0 rfl rfl 1 (by decide) k1 (fun _ h9 => h9) rfl dX6_append_8 ?_
  refine lv_sipush (v := 940) hx hb dX6_append_11 (by decide) ?_
  refine lv_icmp_ge (tgt := 49) hx hb dX6_append_14 (by decide) (fun c => absurd c (by decide)) (fun _ => ?_)
  refine lv_aload_n hx hb dX6_append_17 rfl (lv_at hl 1 rfl) ?_
  refine va_get (D := D) (ci := 6) (v := .ref r_bytes) (C := RX6) (T := TX6) (N := 10) hx hb hts k2 hown hK.1 hP 0 rfl rfl 0 (by decide) k3 (fun _ h9 => h9) rfl dX6_append_18 ?_
  refine lv_aload_n hx hb dX6_append_21 rfl (lv_at hl 1 rfl) ?_
  refine va_get (D := D) (ci := 6) (v := .int 5) (C := RX6) (T := TX6) (N := 10) hx hb hts k2 hown hK.1 hP 0 rfl rfl 1 (by decide) k1 (fun _ h9 => h9) rfl dX6_append_22 ?_
  refine lv_iload_n hx hb dX6_append_25 rfl (lv_at hl 2 rfl) ?_
  refine lv_iload_n hx hb dX6_append_26 rfl (lv_at hl 0 rfl) ?_
  refine lv_iushr hx hb dX6_append_27 rfl ?_
  refine lv_topi (fun x_4 ex_4 => ?_)
  refine lv_sipush (v := 255) hx hb dX6_append_28 (by decide) ?_
  refine lv_iand hx hb dX6_append_31 ?_
  refine lv_topi (fun x_5 ex_5 => ?_)
  refine va_iast hx hb hK.1 hP hD hS 1 0 rfl rfl (oin (k := 5) (by decide) (by decide) rfl) dX6_append_32 (fun H locs hP hD hS => ?_)
  obtain ⟨g_6, eg_6⟩ : ∃ y : Nat → Int32, y = upd g_3 (5 : Int32).toNatClampNeg x_5 := ⟨_, rfl⟩
  rw [← eg_6] at hP hD
  have eg_6 : g_6 = upd g_3 5 x_5 := eg_6.trans (oze g_3 5 x_5 rfl (by decide))
  have hP : va_P D vwCl [(h0, .inr (6, [.ref r_bytes, .int 5, .int r_faultKind, .int r_faultAt, .long r_letters, .int r_mostBytes, .int r_behind, .int r_at, .int r_kind, .int r_number])), (aI ca r_bytes 940 g_6)] H := hP
  have hD : va_D A [(h0, .inr (6, [.ref r_bytes, .int 5, .int r_faultKind, .int r_faultAt, .long r_letters, .int r_mostBytes, .int r_behind, .int r_at, .int r_kind, .int r_number])), (aI ca r_bytes 940 g_6)] := hD
  refine lv_aload_n hx hb dX6_append_33 rfl (lv_at hl 1 rfl) ?_
  refine lv_dup hx hb dX6_append_34 rfl ?_
  refine va_get (D := D) (ci := 6) (v := .int 5) (C := RX6) (T := TX6) (N := 10) hx hb hts k2 hown hK.1 hP 0 rfl rfl 1 (by decide) k1 (fun _ h9 => h9) rfl dX6_append_35 ?_
  refine lv_iconst (v := 1) hx hb dX6_append_38 (by decide) ?_
  refine lv_iadd hx hb dX6_append_39 ?_
  refine oti 6 (by decide) ?_
  refine va_put (D := D) (ci := 6) (v := .int 6) (ty := .int) (C := RX6) (T := TX6) (N := 10) hx hb hts k2 tyX6 tyX6_ok nmX6 hown hK.1 hP hD hS 0 rfl rfl 1 (by decide) k1 (fun _ h9 => h9) rfl (by decide +kernel) rfl rfl (Nat.le_of_ble_eq_true rfl) dX6_append_40 (fun H locs hP hD hS => ?_)
  have hP : va_P D vwCl [(h0, .inr (6, [.ref r_bytes, .int 6, .int r_faultKind, .int r_faultAt, .long r_letters, .int r_mostBytes, .int r_behind, .int r_at, .int r_kind, .int r_number])), (aI ca r_bytes 940 g_6)] H := hP
  have hD : va_D A [(h0, .inr (6, [.ref r_bytes, .int 6, .int r_faultKind, .int r_faultAt, .long r_letters, .int r_mostBytes, .int r_behind, .int r_at, .int r_kind, .int r_number])), (aI ca r_bytes 940 g_6)] := hD
  refine lv_iinc (v := 8) (lv' := [(2, .int 8), (0, .ref h0), (1, .int p0)]) hx hb dX6_append_43 hl (k := 0) rfl (by decide) (by decide) rfl (fun ls hl => ?_)
  refine lv_goto (tgt := 3) hx hb dX6_append_46 (by decide) ?_
  refine lv_iload_n hx hb dX6_append_3 rfl (lv_at hl 0 rfl) ?_
  refine lv_if_lt (tgt := 49) hx hb dX6_append_4 (by decide) (fun c => absurd c (by decide)) (fun _ => ?_)
  refine lv_aload_n hx hb dX6_append_7 rfl (lv_at hl 1 rfl) ?_
  refine va_get (D := D) (ci := 6) (v := .int 6) (C := RX6) (T := TX6) (N := 10) hx hb hts k2 hown hK.1 hP 0 rfl rfl 1 (by decide) k1 (fun _ h9 => h9) rfl dX6_append_8 ?_
  refine lv_sipush (v := 940) hx hb dX6_append_11 (by decide) ?_
  refine lv_icmp_ge (tgt := 49) hx hb dX6_append_14 (by decide) (fun c => absurd c (by decide)) (fun _ => ?_)
  refine lv_aload_n hx hb dX6_append_17 rfl (lv_at hl 1 rfl) ?_
  refine va_get (D := D) (ci := 6) (v := .ref r_bytes) (C := RX6) (T := TX6) (N := 10) hx hb hts k2 hown hK.1 hP 0 rfl rfl 0 (by decide) k3 (fun _ h9 => h9) rfl dX6_append_18 ?_
  refine lv_aload_n hx hb dX6_append_21 rfl (lv_at hl 1 rfl) ?_
  refine va_get (D := D) (ci := 6) (v := .int 6) (C := RX6) (T := TX6) (N := 10) hx hb hts k2 hown hK.1 hP 0 rfl rfl 1 (by decide) k1 (fun _ h9 => h9) rfl dX6_append_22 ?_
  refine lv_iload_n hx hb dX6_append_25 rfl (lv_at hl 2 rfl) ?_
  refine lv_iload_n hx hb dX6_append_26 rfl (lv_at hl 0 rfl) ?_
  refine lv_iushr hx hb dX6_append_27 rfl ?_
  refine lv_topi (fun x_7 ex_7 => ?_)
  refine lv_sipush (v := 255) hx hb dX6_append_28 (by decide) ?_
  refine lv_iand hx hb dX6_append_31 ?_
  refine lv_topi (fun x_8 ex_8 => ?_)
  refine va_iast hx hb hK.1 hP hD hS 1 0 rfl rfl (oin (k := 6) (by decide) (by decide) rfl) dX6_append_32 (fun H locs hP hD hS => ?_)
  obtain ⟨g_9, eg_9⟩ : ∃ y : Nat → Int32, y = upd g_6 (6 : Int32).toNatClampNeg x_8 := ⟨_, rfl⟩
  rw [← eg_9] at hP hD
  have eg_9 : g_9 = upd g_6 6 x_8 := eg_9.trans (oze g_6 6 x_8 rfl (by decide))
  have hP : va_P D vwCl [(h0, .inr (6, [.ref r_bytes, .int 6, .int r_faultKind, .int r_faultAt, .long r_letters, .int r_mostBytes, .int r_behind, .int r_at, .int r_kind, .int r_number])), (aI ca r_bytes 940 g_9)] H := hP
  have hD : va_D A [(h0, .inr (6, [.ref r_bytes, .int 6, .int r_faultKind, .int r_faultAt, .long r_letters, .int r_mostBytes, .int r_behind, .int r_at, .int r_kind, .int r_number])), (aI ca r_bytes 940 g_9)] := hD
  refine lv_aload_n hx hb dX6_append_33 rfl (lv_at hl 1 rfl) ?_
  refine lv_dup hx hb dX6_append_34 rfl ?_
  refine va_get (D := D) (ci := 6) (v := .int 6) (C := RX6) (T := TX6) (N := 10) hx hb hts k2 hown hK.1 hP 0 rfl rfl 1 (by decide) k1 (fun _ h9 => h9) rfl dX6_append_35 ?_
  refine lv_iconst (v := 1) hx hb dX6_append_38 (by decide) ?_
  refine lv_iadd hx hb dX6_append_39 ?_
  refine oti 7 (by decide) ?_
  refine va_put (D := D) (ci := 6) (v := .int 7) (ty := .int) (C := RX6) (T := TX6) (N := 10) hx hb hts k2 tyX6 tyX6_ok nmX6 hown hK.1 hP hD hS 0 rfl rfl 1 (by decide) k1 (fun _ h9 => h9) rfl (by decide +kernel) rfl rfl (Nat.le_of_ble_eq_true rfl) dX6_append_40 (fun H locs hP hD hS => ?_)
  have hP : va_P D vwCl [(h0, .inr (6, [.ref r_bytes, .int 7, .int r_faultKind, .int r_faultAt, .long r_letters, .int r_mostBytes, .int r_behind, .int r_at, .int r_kind, .int r_number])), (aI ca r_bytes 940 g_9)] H := hP
  have hD : va_D A [(h0, .inr (6, [.ref r_bytes, .int 7, .int r_faultKind, .int r_faultAt, .long r_letters, .int r_mostBytes, .int r_behind, .int r_at, .int r_kind, .int r_number])), (aI ca r_bytes 940 g_9)] := hD
  refine lv_iinc (v := 0) (lv' := [(2, .int 0), (0, .ref h0), (1, .int p0)]) hx hb dX6_append_43 hl (k := 0) rfl (by decide) (by decide) rfl (fun ls hl => ?_)
  refine lv_goto (tgt := 3) hx hb dX6_append_46 (by decide) ?_
  refine lv_iload_n hx hb dX6_append_3 rfl (lv_at hl 0 rfl) ?_
  refine lv_if_lt (tgt := 49) hx hb dX6_append_4 (by decide) (fun c => absurd c (by decide)) (fun _ => ?_)
  refine lv_aload_n hx hb dX6_append_7 rfl (lv_at hl 1 rfl) ?_
  refine va_get (D := D) (ci := 6) (v := .int 7) (C := RX6) (T := TX6) (N := 10) hx hb hts k2 hown hK.1 hP 0 rfl rfl 1 (by decide) k1 (fun _ h9 => h9) rfl dX6_append_8 ?_
  refine lv_sipush (v := 940) hx hb dX6_append_11 (by decide) ?_
  refine lv_icmp_ge (tgt := 49) hx hb dX6_append_14 (by decide) (fun c => absurd c (by decide)) (fun _ => ?_)
  refine lv_aload_n hx hb dX6_append_17 rfl (lv_at hl 1 rfl) ?_
  refine va_get (D := D) (ci := 6) (v := .ref r_bytes) (C := RX6) (T := TX6) (N := 10) hx hb hts k2 hown hK.1 hP 0 rfl rfl 0 (by decide) k3 (fun _ h9 => h9) rfl dX6_append_18 ?_
  refine lv_aload_n hx hb dX6_append_21 rfl (lv_at hl 1 rfl) ?_
  refine va_get (D := D) (ci := 6) (v := .int 7) (C := RX6) (T := TX6) (N := 10) hx hb hts k2 hown hK.1 hP 0 rfl rfl 1 (by decide) k1 (fun _ h9 => h9) rfl dX6_append_22 ?_
  refine lv_iload_n hx hb dX6_append_25 rfl (lv_at hl 2 rfl) ?_
  refine lv_iload_n hx hb dX6_append_26 rfl (lv_at hl 0 rfl) ?_
  refine lv_iushr hx hb dX6_append_27 rfl ?_
  refine lv_topi (fun x_10 ex_10 => ?_)
  refine lv_sipush (v := 255) hx hb dX6_append_28 (by decide) ?_
  refine lv_iand hx hb dX6_append_31 ?_
  refine lv_topi (fun x_11 ex_11 => ?_)
  refine va_iast hx hb hK.1 hP hD hS 1 0 rfl rfl (oin (k := 7) (by decide) (by decide) rfl) dX6_append_32 (fun H locs hP hD hS => ?_)
  obtain ⟨g_12, eg_12⟩ : ∃ y : Nat → Int32, y = upd g_9 (7 : Int32).toNatClampNeg x_11 := ⟨_, rfl⟩
  rw [← eg_12] at hP hD
  have eg_12 : g_12 = upd g_9 7 x_11 := eg_12.trans (oze g_9 7 x_11 rfl (by decide))
  have hP : va_P D vwCl [(h0, .inr (6, [.ref r_bytes, .int 7, .int r_faultKind, .int r_faultAt, .long r_letters, .int r_mostBytes, .int r_behind, .int r_at, .int r_kind, .int r_number])), (aI ca r_bytes 940 g_12)] H := hP
  have hD : va_D A [(h0, .inr (6, [.ref r_bytes, .int 7, .int r_faultKind, .int r_faultAt, .long r_letters, .int r_mostBytes, .int r_behind, .int r_at, .int r_kind, .int r_number])), (aI ca r_bytes 940 g_12)] := hD
  refine lv_aload_n hx hb dX6_append_33 rfl (lv_at hl 1 rfl) ?_
  refine lv_dup hx hb dX6_append_34 rfl ?_
  refine va_get (D := D) (ci := 6) (v := .int 7) (C := RX6) (T := TX6) (N := 10) hx hb hts k2 hown hK.1 hP 0 rfl rfl 1 (by decide) k1 (fun _ h9 => h9) rfl dX6_append_35 ?_
  refine lv_iconst (v := 1) hx hb dX6_append_38 (by decide) ?_
  refine lv_iadd hx hb dX6_append_39 ?_
  refine oti 8 (by decide) ?_
  refine va_put (D := D) (ci := 6) (v := .int 8) (ty := .int) (C := RX6) (T := TX6) (N := 10) hx hb hts k2 tyX6 tyX6_ok nmX6 hown hK.1 hP hD hS 0 rfl rfl 1 (by decide) k1 (fun _ h9 => h9) rfl (by decide +kernel) rfl rfl (Nat.le_of_ble_eq_true rfl) dX6_append_40 (fun H locs hP hD hS => ?_)
  have hP : va_P D vwCl [(h0, .inr (6, [.ref r_bytes, .int 8, .int r_faultKind, .int r_faultAt, .long r_letters, .int r_mostBytes, .int r_behind, .int r_at, .int r_kind, .int r_number])), (aI ca r_bytes 940 g_12)] H := hP
  have hD : va_D A [(h0, .inr (6, [.ref r_bytes, .int 8, .int r_faultKind, .int r_faultAt, .long r_letters, .int r_mostBytes, .int r_behind, .int r_at, .int r_kind, .int r_number])), (aI ca r_bytes 940 g_12)] := hD
  refine lv_iinc (v := (-8)) (lv' := [(2, .int (-8)), (0, .ref h0), (1, .int p0)]) hx hb dX6_append_43 hl (k := 0) rfl (by decide) (by decide) rfl (fun ls hl => ?_)
  refine lv_goto (tgt := 3) hx hb dX6_append_46 (by decide) ?_
  refine lv_iload_n hx hb dX6_append_3 rfl (lv_at hl 0 rfl) ?_
  refine lv_if_lt (tgt := 49) hx hb dX6_append_4 (by decide) (fun _ => ?_) (fun c => absurd (by decide) c)
  exact oE_v hx hb hr hlocks hP hD hS g_12 [0, 1] rfl (by decide) trivial (Nat.le_of_ble_eq_true rfl) (Nat.le_of_ble_eq_true rfl) dX6_append_49
set_option maxHeartbeats 4000000 in
set_option maxRecDepth 100000 in
theorem c_append_8 (l : Launch) (D : va_G) (ca : Nat → ClassId) (sz : Nat) (h0 : Nat) (p0 : Int32) (r_bytes : Nat) (r_faultKind : Int32) (r_faultAt : Int32) (r_letters : Int64) (r_mostBytes : Int32) (r_behind : Int32) (r_at : Int32) (r_kind : Int32) (r_number : Int32) (fb : Nat → Int32)  : oMet l yX6_append wsX6_append ({ frames := 0, cells := 0, slots := 0, locals := 0 } : Room) [.ref h0, .int p0] D ca sz [(h0, .inr (6, [.ref r_bytes, .int 8, .int r_faultKind, .int r_faultAt, .long r_letters, .int r_mostBytes, .int r_behind, .int r_at, .int r_kind, .int r_number])), (aI ca r_bytes 940 fb)] (oQv D (fun (u : (Nat → Int32)) => True) (fun (u : (Nat → Int32)) => [(h0, .inr (6, [.ref r_bytes, .int 12, .int r_faultKind, .int r_faultAt, .long r_letters, .int r_mostBytes, .int r_behind, .int r_at, .int r_kind, .int r_number])), (aI ca r_bytes 940 u)])) 0 0 := by
  refine oM (cc := cX6_append) (maxL := 3) (ret := none) (by decide) rfl (Nat.le_of_ble_eq_true rfl) [(0, .ref h0), (1, .int p0)] rfl ?_
  intro p e s m below meth c A H locs ls hx hb hr hml hts hown hlocks hin hK hP hD hA hS hl
  have hown : s.vm.findClass RX6 = some m.cls := hown
  have k1 := hts (.fieldLink RX6 15 "LidCourt$Reader" "length" "I") (by decide +kernel)
  have k2 : ∀ w ∈ wsX60, w ∈ wsX6_append := fun _ h => List.mem_cons_of_mem _ (List.mem_append_right _ h)
  have k3 := hts (.fieldLink RX6 9 "LidCourt$Reader" "bytes" "[I") (by decide +kernel)
  refine lv_bipush (v := 24) hx hb dX6_append_0 (by decide) ?_
  refine lv_istore_n (lv' := [(2, .int 24), (0, .ref h0), (1, .int p0)]) hx hb dX6_append_2 rfl hl (by decide) rfl (fun ls hl => ?_)
  refine lv_iload_n hx hb dX6_append_3 rfl (lv_at hl 0 rfl) ?_
  refine lv_if_lt (tgt := 49) hx hb dX6_append_4 (by decide) (fun c => absurd c (by decide)) (fun _ => ?_)
  refine lv_aload_n hx hb dX6_append_7 rfl (lv_at hl 1 rfl) ?_
  refine va_get (D := D) (ci := 6) (v := .int 8) (C := RX6) (T := TX6) (N := 10) hx hb hts k2 hown hK.1 hP 0 rfl rfl 1 (by decide) k1 (fun _ h9 => h9) rfl dX6_append_8 ?_
  refine lv_sipush (v := 940) hx hb dX6_append_11 (by decide) ?_
  refine lv_icmp_ge (tgt := 49) hx hb dX6_append_14 (by decide) (fun c => absurd c (by decide)) (fun _ => ?_)
  refine lv_aload_n hx hb dX6_append_17 rfl (lv_at hl 1 rfl) ?_
  refine va_get (D := D) (ci := 6) (v := .ref r_bytes) (C := RX6) (T := TX6) (N := 10) hx hb hts k2 hown hK.1 hP 0 rfl rfl 0 (by decide) k3 (fun _ h9 => h9) rfl dX6_append_18 ?_
  refine lv_aload_n hx hb dX6_append_21 rfl (lv_at hl 1 rfl) ?_
  refine va_get (D := D) (ci := 6) (v := .int 8) (C := RX6) (T := TX6) (N := 10) hx hb hts k2 hown hK.1 hP 0 rfl rfl 1 (by decide) k1 (fun _ h9 => h9) rfl dX6_append_22 ?_
  refine lv_iload_n hx hb dX6_append_25 rfl (lv_at hl 2 rfl) ?_
  refine lv_iload_n hx hb dX6_append_26 rfl (lv_at hl 0 rfl) ?_
  refine lv_iushr hx hb dX6_append_27 rfl ?_
  refine lv_topi (fun x_1 ex_1 => ?_)
  refine lv_sipush (v := 255) hx hb dX6_append_28 (by decide) ?_
  refine lv_iand hx hb dX6_append_31 ?_
  refine lv_topi (fun x_2 ex_2 => ?_)
  refine va_iast hx hb hK.1 hP hD hS 1 0 rfl rfl (oin (k := 8) (by decide) (by decide) rfl) dX6_append_32 (fun H locs hP hD hS => ?_)
  obtain ⟨g_3, eg_3⟩ : ∃ y : Nat → Int32, y = upd fb (8 : Int32).toNatClampNeg x_2 := ⟨_, rfl⟩
  rw [← eg_3] at hP hD
  have eg_3 : g_3 = upd fb 8 x_2 := eg_3.trans (oze fb 8 x_2 rfl (by decide))
  have hP : va_P D vwCl [(h0, .inr (6, [.ref r_bytes, .int 8, .int r_faultKind, .int r_faultAt, .long r_letters, .int r_mostBytes, .int r_behind, .int r_at, .int r_kind, .int r_number])), (aI ca r_bytes 940 g_3)] H := hP
  have hD : va_D A [(h0, .inr (6, [.ref r_bytes, .int 8, .int r_faultKind, .int r_faultAt, .long r_letters, .int r_mostBytes, .int r_behind, .int r_at, .int r_kind, .int r_number])), (aI ca r_bytes 940 g_3)] := hD
  refine lv_aload_n hx hb dX6_append_33 rfl (lv_at hl 1 rfl) ?_
  refine lv_dup hx hb dX6_append_34 rfl ?_
  refine va_get (D := D) (ci := 6) (v := .int 8) (C := RX6) (T := TX6) (N := 10) hx hb hts k2 hown hK.1 hP 0 rfl rfl 1 (by decide) k1 (fun _ h9 => h9) rfl dX6_append_35 ?_
  refine lv_iconst (v := 1) hx hb dX6_append_38 (by decide) ?_
  refine lv_iadd hx hb dX6_append_39 ?_
  refine oti 9 (by decide) ?_
  refine va_put (D := D) (ci := 6) (v := .int 9) (ty := .int) (C := RX6) (T := TX6) (N := 10) hx hb hts k2 tyX6 tyX6_ok nmX6 hown hK.1 hP hD hS 0 rfl rfl 1 (by decide) k1 (fun _ h9 => h9) rfl (by decide +kernel) rfl rfl (Nat.le_of_ble_eq_true rfl) dX6_append_40 (fun H locs hP hD hS => ?_)
  have hP : va_P D vwCl [(h0, .inr (6, [.ref r_bytes, .int 9, .int r_faultKind, .int r_faultAt, .long r_letters, .int r_mostBytes, .int r_behind, .int r_at, .int r_kind, .int r_number])), (aI ca r_bytes 940 g_3)] H := hP
  have hD : va_D A [(h0, .inr (6, [.ref r_bytes, .int 9, .int r_faultKind, .int r_faultAt, .long r_letters, .int r_mostBytes, .int r_behind, .int r_at, .int r_kind, .int r_number])), (aI ca r_bytes 940 g_3)] := hD
  refine lv_iinc (v := 16) (lv' := [(2, .int 16), (0, .ref h0), (1, .int p0)]) hx hb dX6_append_43 hl (k := 0) rfl (by decide) (by decide) rfl (fun ls hl => ?_)
  refine lv_goto (tgt := 3) hx hb dX6_append_46 (by decide) ?_
  refine lv_iload_n hx hb dX6_append_3 rfl (lv_at hl 0 rfl) ?_
  refine lv_if_lt (tgt := 49) hx hb dX6_append_4 (by decide) (fun c => absurd c (by decide)) (fun _ => ?_)
  refine lv_aload_n hx hb dX6_append_7 rfl (lv_at hl 1 rfl) ?_
  refine va_get (D := D) (ci := 6) (v := .int 9) (C := RX6) (T := TX6) (N := 10) hx hb hts k2 hown hK.1 hP 0 rfl rfl 1 (by decide) k1 (fun _ h9 => h9) rfl dX6_append_8 ?_
  refine lv_sipush (v := 940) hx hb dX6_append_11 (by decide) ?_
  refine lv_icmp_ge (tgt := 49) hx hb dX6_append_14 (by decide) (fun c => absurd c (by decide)) (fun _ => ?_)
  refine lv_aload_n hx hb dX6_append_17 rfl (lv_at hl 1 rfl) ?_
  refine va_get (D := D) (ci := 6) (v := .ref r_bytes) (C := RX6) (T := TX6) (N := 10) hx hb hts k2 hown hK.1 hP 0 rfl rfl 0 (by decide) k3 (fun _ h9 => h9) rfl dX6_append_18 ?_
  refine lv_aload_n hx hb dX6_append_21 rfl (lv_at hl 1 rfl) ?_
  refine va_get (D := D) (ci := 6) (v := .int 9) (C := RX6) (T := TX6) (N := 10) hx hb hts k2 hown hK.1 hP 0 rfl rfl 1 (by decide) k1 (fun _ h9 => h9) rfl dX6_append_22 ?_
  refine lv_iload_n hx hb dX6_append_25 rfl (lv_at hl 2 rfl) ?_
  refine lv_iload_n hx hb dX6_append_26 rfl (lv_at hl 0 rfl) ?_
  refine lv_iushr hx hb dX6_append_27 rfl ?_
  refine lv_topi (fun x_4 ex_4 => ?_)
  refine lv_sipush (v := 255) hx hb dX6_append_28 (by decide) ?_
  refine lv_iand hx hb dX6_append_31 ?_
  refine lv_topi (fun x_5 ex_5 => ?_)
  refine va_iast hx hb hK.1 hP hD hS 1 0 rfl rfl (oin (k := 9) (by decide) (by decide) rfl) dX6_append_32 (fun H locs hP hD hS => ?_)
  obtain ⟨g_6, eg_6⟩ : ∃ y : Nat → Int32, y = upd g_3 (9 : Int32).toNatClampNeg x_5 := ⟨_, rfl⟩
  rw [← eg_6] at hP hD
  have eg_6 : g_6 = upd g_3 9 x_5 := eg_6.trans (oze g_3 9 x_5 rfl (by decide))
  have hP : va_P D vwCl [(h0, .inr (6, [.ref r_bytes, .int 9, .int r_faultKind, .int r_faultAt, .long r_letters, .int r_mostBytes, .int r_behind, .int r_at, .int r_kind, .int r_number])), (aI ca r_bytes 940 g_6)] H := hP
  have hD : va_D A [(h0, .inr (6, [.ref r_bytes, .int 9, .int r_faultKind, .int r_faultAt, .long r_letters, .int r_mostBytes, .int r_behind, .int r_at, .int r_kind, .int r_number])), (aI ca r_bytes 940 g_6)] := hD
  refine lv_aload_n hx hb dX6_append_33 rfl (lv_at hl 1 rfl) ?_
  refine lv_dup hx hb dX6_append_34 rfl ?_
  refine va_get (D := D) (ci := 6) (v := .int 9) (C := RX6) (T := TX6) (N := 10) hx hb hts k2 hown hK.1 hP 0 rfl rfl 1 (by decide) k1 (fun _ h9 => h9) rfl dX6_append_35 ?_
  refine lv_iconst (v := 1) hx hb dX6_append_38 (by decide) ?_
  refine lv_iadd hx hb dX6_append_39 ?_
  refine oti 10 (by decide) ?_
  refine va_put (D := D) (ci := 6) (v := .int 10) (ty := .int) (C := RX6) (T := TX6) (N := 10) hx hb hts k2 tyX6 tyX6_ok nmX6 hown hK.1 hP hD hS 0 rfl rfl 1 (by decide) k1 (fun _ h9 => h9) rfl (by decide +kernel) rfl rfl (Nat.le_of_ble_eq_true rfl) dX6_append_40 (fun H locs hP hD hS => ?_)
  have hP : va_P D vwCl [(h0, .inr (6, [.ref r_bytes, .int 10, .int r_faultKind, .int r_faultAt, .long r_letters, .int r_mostBytes, .int r_behind, .int r_at, .int r_kind, .int r_number])), (aI ca r_bytes 940 g_6)] H := hP
  have hD : va_D A [(h0, .inr (6, [.ref r_bytes, .int 10, .int r_faultKind, .int r_faultAt, .long r_letters, .int r_mostBytes, .int r_behind, .int r_at, .int r_kind, .int r_number])), (aI ca r_bytes 940 g_6)] := hD
  refine lv_iinc (v := 8) (lv' := [(2, .int 8), (0, .ref h0), (1, .int p0)]) hx hb dX6_append_43 hl (k := 0) rfl (by decide) (by decide) rfl (fun ls hl => ?_)
  refine lv_goto (tgt := 3) hx hb dX6_append_46 (by decide) ?_
  refine lv_iload_n hx hb dX6_append_3 rfl (lv_at hl 0 rfl) ?_
  refine lv_if_lt (tgt := 49) hx hb dX6_append_4 (by decide) (fun c => absurd c (by decide)) (fun _ => ?_)
  refine lv_aload_n hx hb dX6_append_7 rfl (lv_at hl 1 rfl) ?_
  refine va_get (D := D) (ci := 6) (v := .int 10) (C := RX6) (T := TX6) (N := 10) hx hb hts k2 hown hK.1 hP 0 rfl rfl 1 (by decide) k1 (fun _ h9 => h9) rfl dX6_append_8 ?_
  refine lv_sipush (v := 940) hx hb dX6_append_11 (by decide) ?_
  refine lv_icmp_ge (tgt := 49) hx hb dX6_append_14 (by decide) (fun c => absurd c (by decide)) (fun _ => ?_)
  refine lv_aload_n hx hb dX6_append_17 rfl (lv_at hl 1 rfl) ?_
  refine va_get (D := D) (ci := 6) (v := .ref r_bytes) (C := RX6) (T := TX6) (N := 10) hx hb hts k2 hown hK.1 hP 0 rfl rfl 0 (by decide) k3 (fun _ h9 => h9) rfl dX6_append_18 ?_
  refine lv_aload_n hx hb dX6_append_21 rfl (lv_at hl 1 rfl) ?_
  refine va_get (D := D) (ci := 6) (v := .int 10) (C := RX6) (T := TX6) (N := 10) hx hb hts k2 hown hK.1 hP 0 rfl rfl 1 (by decide) k1 (fun _ h9 => h9) rfl dX6_append_22 ?_
  refine lv_iload_n hx hb dX6_append_25 rfl (lv_at hl 2 rfl) ?_
  refine lv_iload_n hx hb dX6_append_26 rfl (lv_at hl 0 rfl) ?_
  refine lv_iushr hx hb dX6_append_27 rfl ?_
  refine lv_topi (fun x_7 ex_7 => ?_)
  refine lv_sipush (v := 255) hx hb dX6_append_28 (by decide) ?_
  refine lv_iand hx hb dX6_append_31 ?_
  refine lv_topi (fun x_8 ex_8 => ?_)
  refine va_iast hx hb hK.1 hP hD hS 1 0 rfl rfl (oin (k := 10) (by decide) (by decide) rfl) dX6_append_32 (fun H locs hP hD hS => ?_)
  obtain ⟨g_9, eg_9⟩ : ∃ y : Nat → Int32, y = upd g_6 (10 : Int32).toNatClampNeg x_8 := ⟨_, rfl⟩
  rw [← eg_9] at hP hD
  have eg_9 : g_9 = upd g_6 10 x_8 := eg_9.trans (oze g_6 10 x_8 rfl (by decide))
  have hP : va_P D vwCl [(h0, .inr (6, [.ref r_bytes, .int 10, .int r_faultKind, .int r_faultAt, .long r_letters, .int r_mostBytes, .int r_behind, .int r_at, .int r_kind, .int r_number])), (aI ca r_bytes 940 g_9)] H := hP
  have hD : va_D A [(h0, .inr (6, [.ref r_bytes, .int 10, .int r_faultKind, .int r_faultAt, .long r_letters, .int r_mostBytes, .int r_behind, .int r_at, .int r_kind, .int r_number])), (aI ca r_bytes 940 g_9)] := hD
  refine lv_aload_n hx hb dX6_append_33 rfl (lv_at hl 1 rfl) ?_
  refine lv_dup hx hb dX6_append_34 rfl ?_
  refine va_get (D := D) (ci := 6) (v := .int 10) (C := RX6) (T := TX6) (N := 10) hx hb hts k2 hown hK.1 hP 0 rfl rfl 1 (by decide) k1 (fun _ h9 => h9) rfl dX6_append_35 ?_
  refine lv_iconst (v := 1) hx hb dX6_append_38 (by decide) ?_
  refine lv_iadd hx hb dX6_append_39 ?_
  refine oti 11 (by decide) ?_
  refine va_put (D := D) (ci := 6) (v := .int 11) (ty := .int) (C := RX6) (T := TX6) (N := 10) hx hb hts k2 tyX6 tyX6_ok nmX6 hown hK.1 hP hD hS 0 rfl rfl 1 (by decide) k1 (fun _ h9 => h9) rfl (by decide +kernel) rfl rfl (Nat.le_of_ble_eq_true rfl) dX6_append_40 (fun H locs hP hD hS => ?_)
  have hP : va_P D vwCl [(h0, .inr (6, [.ref r_bytes, .int 11, .int r_faultKind, .int r_faultAt, .long r_letters, .int r_mostBytes, .int r_behind, .int r_at, .int r_kind, .int r_number])), (aI ca r_bytes 940 g_9)] H := hP
  have hD : va_D A [(h0, .inr (6, [.ref r_bytes, .int 11, .int r_faultKind, .int r_faultAt, .long r_letters, .int r_mostBytes, .int r_behind, .int r_at, .int r_kind, .int r_number])), (aI ca r_bytes 940 g_9)] := hD
  refine lv_iinc (v := 0) (lv' := [(2, .int 0), (0, .ref h0), (1, .int p0)]) hx hb dX6_append_43 hl (k := 0) rfl (by decide) (by decide) rfl (fun ls hl => ?_)
  refine lv_goto (tgt := 3) hx hb dX6_append_46 (by decide) ?_
  refine lv_iload_n hx hb dX6_append_3 rfl (lv_at hl 0 rfl) ?_
  refine lv_if_lt (tgt := 49) hx hb dX6_append_4 (by decide) (fun c => absurd c (by decide)) (fun _ => ?_)
  refine lv_aload_n hx hb dX6_append_7 rfl (lv_at hl 1 rfl) ?_
  refine va_get (D := D) (ci := 6) (v := .int 11) (C := RX6) (T := TX6) (N := 10) hx hb hts k2 hown hK.1 hP 0 rfl rfl 1 (by decide) k1 (fun _ h9 => h9) rfl dX6_append_8 ?_
  refine lv_sipush (v := 940) hx hb dX6_append_11 (by decide) ?_
  refine lv_icmp_ge (tgt := 49) hx hb dX6_append_14 (by decide) (fun c => absurd c (by decide)) (fun _ => ?_)
  refine lv_aload_n hx hb dX6_append_17 rfl (lv_at hl 1 rfl) ?_
  refine va_get (D := D) (ci := 6) (v := .ref r_bytes) (C := RX6) (T := TX6) (N := 10) hx hb hts k2 hown hK.1 hP 0 rfl rfl 0 (by decide) k3 (fun _ h9 => h9) rfl dX6_append_18 ?_
  refine lv_aload_n hx hb dX6_append_21 rfl (lv_at hl 1 rfl) ?_
  refine va_get (D := D) (ci := 6) (v := .int 11) (C := RX6) (T := TX6) (N := 10) hx hb hts k2 hown hK.1 hP 0 rfl rfl 1 (by decide) k1 (fun _ h9 => h9) rfl dX6_append_22 ?_
  refine lv_iload_n hx hb dX6_append_25 rfl (lv_at hl 2 rfl) ?_
  refine lv_iload_n hx hb dX6_append_26 rfl (lv_at hl 0 rfl) ?_
  refine lv_iushr hx hb dX6_append_27 rfl ?_
  refine lv_topi (fun x_10 ex_10 => ?_)
  refine lv_sipush (v := 255) hx hb dX6_append_28 (by decide) ?_
  refine lv_iand hx hb dX6_append_31 ?_
  refine lv_topi (fun x_11 ex_11 => ?_)
  refine va_iast hx hb hK.1 hP hD hS 1 0 rfl rfl (oin (k := 11) (by decide) (by decide) rfl) dX6_append_32 (fun H locs hP hD hS => ?_)
  obtain ⟨g_12, eg_12⟩ : ∃ y : Nat → Int32, y = upd g_9 (11 : Int32).toNatClampNeg x_11 := ⟨_, rfl⟩
  rw [← eg_12] at hP hD
  have eg_12 : g_12 = upd g_9 11 x_11 := eg_12.trans (oze g_9 11 x_11 rfl (by decide))
  have hP : va_P D vwCl [(h0, .inr (6, [.ref r_bytes, .int 11, .int r_faultKind, .int r_faultAt, .long r_letters, .int r_mostBytes, .int r_behind, .int r_at, .int r_kind, .int r_number])), (aI ca r_bytes 940 g_12)] H := hP
  have hD : va_D A [(h0, .inr (6, [.ref r_bytes, .int 11, .int r_faultKind, .int r_faultAt, .long r_letters, .int r_mostBytes, .int r_behind, .int r_at, .int r_kind, .int r_number])), (aI ca r_bytes 940 g_12)] := hD
  refine lv_aload_n hx hb dX6_append_33 rfl (lv_at hl 1 rfl) ?_
  refine lv_dup hx hb dX6_append_34 rfl ?_
  refine va_get (D := D) (ci := 6) (v := .int 11) (C := RX6) (T := TX6) (N := 10) hx hb hts k2 hown hK.1 hP 0 rfl rfl 1 (by decide) k1 (fun _ h9 => h9) rfl dX6_append_35 ?_
  refine lv_iconst (v := 1) hx hb dX6_append_38 (by decide) ?_
  refine lv_iadd hx hb dX6_append_39 ?_
  refine oti 12 (by decide) ?_
  refine va_put (D := D) (ci := 6) (v := .int 12) (ty := .int) (C := RX6) (T := TX6) (N := 10) hx hb hts k2 tyX6 tyX6_ok nmX6 hown hK.1 hP hD hS 0 rfl rfl 1 (by decide) k1 (fun _ h9 => h9) rfl (by decide +kernel) rfl rfl (Nat.le_of_ble_eq_true rfl) dX6_append_40 (fun H locs hP hD hS => ?_)
  have hP : va_P D vwCl [(h0, .inr (6, [.ref r_bytes, .int 12, .int r_faultKind, .int r_faultAt, .long r_letters, .int r_mostBytes, .int r_behind, .int r_at, .int r_kind, .int r_number])), (aI ca r_bytes 940 g_12)] H := hP
  have hD : va_D A [(h0, .inr (6, [.ref r_bytes, .int 12, .int r_faultKind, .int r_faultAt, .long r_letters, .int r_mostBytes, .int r_behind, .int r_at, .int r_kind, .int r_number])), (aI ca r_bytes 940 g_12)] := hD
  refine lv_iinc (v := (-8)) (lv' := [(2, .int (-8)), (0, .ref h0), (1, .int p0)]) hx hb dX6_append_43 hl (k := 0) rfl (by decide) (by decide) rfl (fun ls hl => ?_)
  refine lv_goto (tgt := 3) hx hb dX6_append_46 (by decide) ?_
  refine lv_iload_n hx hb dX6_append_3 rfl (lv_at hl 0 rfl) ?_
  refine lv_if_lt (tgt := 49) hx hb dX6_append_4 (by decide) (fun _ => ?_) (fun c => absurd (by decide) c)
  exact oE_v hx hb hr hlocks hP hD hS g_12 [0, 1] rfl (by decide) trivial (Nat.le_of_ble_eq_true rfl) (Nat.le_of_ble_eq_true rfl) dX6_append_49
set_option maxHeartbeats 4000000 in
set_option maxRecDepth 100000 in
theorem c_append_12 (l : Launch) (D : va_G) (ca : Nat → ClassId) (sz : Nat) (h0 : Nat) (p0 : Int32) (r_bytes : Nat) (r_faultKind : Int32) (r_faultAt : Int32) (r_letters : Int64) (r_mostBytes : Int32) (r_behind : Int32) (r_at : Int32) (r_kind : Int32) (r_number : Int32) (fb : Nat → Int32)  : oMet l yX6_append wsX6_append ({ frames := 0, cells := 0, slots := 0, locals := 0 } : Room) [.ref h0, .int p0] D ca sz [(h0, .inr (6, [.ref r_bytes, .int 12, .int r_faultKind, .int r_faultAt, .long r_letters, .int r_mostBytes, .int r_behind, .int r_at, .int r_kind, .int r_number])), (aI ca r_bytes 940 fb)] (oQv D (fun (u : (Nat → Int32)) => True) (fun (u : (Nat → Int32)) => [(h0, .inr (6, [.ref r_bytes, .int 16, .int r_faultKind, .int r_faultAt, .long r_letters, .int r_mostBytes, .int r_behind, .int r_at, .int r_kind, .int r_number])), (aI ca r_bytes 940 u)])) 0 0 := by
  refine oM (cc := cX6_append) (maxL := 3) (ret := none) (by decide) rfl (Nat.le_of_ble_eq_true rfl) [(0, .ref h0), (1, .int p0)] rfl ?_
  intro p e s m below meth c A H locs ls hx hb hr hml hts hown hlocks hin hK hP hD hA hS hl
  have hown : s.vm.findClass RX6 = some m.cls := hown
  have k1 := hts (.fieldLink RX6 15 "LidCourt$Reader" "length" "I") (by decide +kernel)
  have k2 : ∀ w ∈ wsX60, w ∈ wsX6_append := fun _ h => List.mem_cons_of_mem _ (List.mem_append_right _ h)
  have k3 := hts (.fieldLink RX6 9 "LidCourt$Reader" "bytes" "[I") (by decide +kernel)
  refine lv_bipush (v := 24) hx hb dX6_append_0 (by decide) ?_
  refine lv_istore_n (lv' := [(2, .int 24), (0, .ref h0), (1, .int p0)]) hx hb dX6_append_2 rfl hl (by decide) rfl (fun ls hl => ?_)
  refine lv_iload_n hx hb dX6_append_3 rfl (lv_at hl 0 rfl) ?_
  refine lv_if_lt (tgt := 49) hx hb dX6_append_4 (by decide) (fun c => absurd c (by decide)) (fun _ => ?_)
  refine lv_aload_n hx hb dX6_append_7 rfl (lv_at hl 1 rfl) ?_
  refine va_get (D := D) (ci := 6) (v := .int 12) (C := RX6) (T := TX6) (N := 10) hx hb hts k2 hown hK.1 hP 0 rfl rfl 1 (by decide) k1 (fun _ h9 => h9) rfl dX6_append_8 ?_
  refine lv_sipush (v := 940) hx hb dX6_append_11 (by decide) ?_
  refine lv_icmp_ge (tgt := 49) hx hb dX6_append_14 (by decide) (fun c => absurd c (by decide)) (fun _ => ?_)
  refine lv_aload_n hx hb dX6_append_17 rfl (lv_at hl 1 rfl) ?_
  refine va_get (D := D) (ci := 6) (v := .ref r_bytes) (C := RX6) (T := TX6) (N := 10) hx hb hts k2 hown hK.1 hP 0 rfl rfl 0 (by decide) k3 (fun _ h9 => h9) rfl dX6_append_18 ?_
  refine lv_aload_n hx hb dX6_append_21 rfl (lv_at hl 1 rfl) ?_
  refine va_get (D := D) (ci := 6) (v := .int 12) (C := RX6) (T := TX6) (N := 10) hx hb hts k2 hown hK.1 hP 0 rfl rfl 1 (by decide) k1 (fun _ h9 => h9) rfl dX6_append_22 ?_
  refine lv_iload_n hx hb dX6_append_25 rfl (lv_at hl 2 rfl) ?_
  refine lv_iload_n hx hb dX6_append_26 rfl (lv_at hl 0 rfl) ?_
  refine lv_iushr hx hb dX6_append_27 rfl ?_
  refine lv_topi (fun x_1 ex_1 => ?_)
  refine lv_sipush (v := 255) hx hb dX6_append_28 (by decide) ?_
  refine lv_iand hx hb dX6_append_31 ?_
  refine lv_topi (fun x_2 ex_2 => ?_)
  refine va_iast hx hb hK.1 hP hD hS 1 0 rfl rfl (oin (k := 12) (by decide) (by decide) rfl) dX6_append_32 (fun H locs hP hD hS => ?_)
  obtain ⟨g_3, eg_3⟩ : ∃ y : Nat → Int32, y = upd fb (12 : Int32).toNatClampNeg x_2 := ⟨_, rfl⟩
  rw [← eg_3] at hP hD
  have eg_3 : g_3 = upd fb 12 x_2 := eg_3.trans (oze fb 12 x_2 rfl (by decide))
  have hP : va_P D vwCl [(h0, .inr (6, [.ref r_bytes, .int 12, .int r_faultKind, .int r_faultAt, .long r_letters, .int r_mostBytes, .int r_behind, .int r_at, .int r_kind, .int r_number])), (aI ca r_bytes 940 g_3)] H := hP
  have hD : va_D A [(h0, .inr (6, [.ref r_bytes, .int 12, .int r_faultKind, .int r_faultAt, .long r_letters, .int r_mostBytes, .int r_behind, .int r_at, .int r_kind, .int r_number])), (aI ca r_bytes 940 g_3)] := hD
  refine lv_aload_n hx hb dX6_append_33 rfl (lv_at hl 1 rfl) ?_
  refine lv_dup hx hb dX6_append_34 rfl ?_
  refine va_get (D := D) (ci := 6) (v := .int 12) (C := RX6) (T := TX6) (N := 10) hx hb hts k2 hown hK.1 hP 0 rfl rfl 1 (by decide) k1 (fun _ h9 => h9) rfl dX6_append_35 ?_
  refine lv_iconst (v := 1) hx hb dX6_append_38 (by decide) ?_
  refine lv_iadd hx hb dX6_append_39 ?_
  refine oti 13 (by decide) ?_
  refine va_put (D := D) (ci := 6) (v := .int 13) (ty := .int) (C := RX6) (T := TX6) (N := 10) hx hb hts k2 tyX6 tyX6_ok nmX6 hown hK.1 hP hD hS 0 rfl rfl 1 (by decide) k1 (fun _ h9 => h9) rfl (by decide +kernel) rfl rfl (Nat.le_of_ble_eq_true rfl) dX6_append_40 (fun H locs hP hD hS => ?_)
  have hP : va_P D vwCl [(h0, .inr (6, [.ref r_bytes, .int 13, .int r_faultKind, .int r_faultAt, .long r_letters, .int r_mostBytes, .int r_behind, .int r_at, .int r_kind, .int r_number])), (aI ca r_bytes 940 g_3)] H := hP
  have hD : va_D A [(h0, .inr (6, [.ref r_bytes, .int 13, .int r_faultKind, .int r_faultAt, .long r_letters, .int r_mostBytes, .int r_behind, .int r_at, .int r_kind, .int r_number])), (aI ca r_bytes 940 g_3)] := hD
  refine lv_iinc (v := 16) (lv' := [(2, .int 16), (0, .ref h0), (1, .int p0)]) hx hb dX6_append_43 hl (k := 0) rfl (by decide) (by decide) rfl (fun ls hl => ?_)
  refine lv_goto (tgt := 3) hx hb dX6_append_46 (by decide) ?_
  refine lv_iload_n hx hb dX6_append_3 rfl (lv_at hl 0 rfl) ?_
  refine lv_if_lt (tgt := 49) hx hb dX6_append_4 (by decide) (fun c => absurd c (by decide)) (fun _ => ?_)
  refine lv_aload_n hx hb dX6_append_7 rfl (lv_at hl 1 rfl) ?_
  refine va_get (D := D) (ci := 6) (v := .int 13) (C := RX6) (T := TX6) (N := 10) hx hb hts k2 hown hK.1 hP 0 rfl rfl 1 (by decide) k1 (fun _ h9 => h9) rfl dX6_append_8 ?_
  refine lv_sipush (v := 940) hx hb dX6_append_11 (by decide) ?_
  refine lv_icmp_ge (tgt := 49) hx hb dX6_append_14 (by decide) (fun c => absurd c (by decide)) (fun _ => ?_)
  refine lv_aload_n hx hb dX6_append_17 rfl (lv_at hl 1 rfl) ?_
  refine va_get (D := D) (ci := 6) (v := .ref r_bytes) (C := RX6) (T := TX6) (N := 10) hx hb hts k2 hown hK.1 hP 0 rfl rfl 0 (by decide) k3 (fun _ h9 => h9) rfl dX6_append_18 ?_
  refine lv_aload_n hx hb dX6_append_21 rfl (lv_at hl 1 rfl) ?_
  refine va_get (D := D) (ci := 6) (v := .int 13) (C := RX6) (T := TX6) (N := 10) hx hb hts k2 hown hK.1 hP 0 rfl rfl 1 (by decide) k1 (fun _ h9 => h9) rfl dX6_append_22 ?_
  refine lv_iload_n hx hb dX6_append_25 rfl (lv_at hl 2 rfl) ?_
  refine lv_iload_n hx hb dX6_append_26 rfl (lv_at hl 0 rfl) ?_
  refine lv_iushr hx hb dX6_append_27 rfl ?_
  refine lv_topi (fun x_4 ex_4 => ?_)
  refine lv_sipush (v := 255) hx hb dX6_append_28 (by decide) ?_
  refine lv_iand hx hb dX6_append_31 ?_
  refine lv_topi (fun x_5 ex_5 => ?_)
  refine va_iast hx hb hK.1 hP hD hS 1 0 rfl rfl (oin (k := 13) (by decide) (by decide) rfl) dX6_append_32 (fun H locs hP hD hS => ?_)
  obtain ⟨g_6, eg_6⟩ : ∃ y : Nat → Int32, y = upd g_3 (13 : Int32).toNatClampNeg x_5 := ⟨_, rfl⟩
  rw [← eg_6] at hP hD
  have eg_6 : g_6 = upd g_3 13 x_5 := eg_6.trans (oze g_3 13 x_5 rfl (by decide))
  have hP : va_P D vwCl [(h0, .inr (6, [.ref r_bytes, .int 13, .int r_faultKind, .int r_faultAt, .long r_letters, .int r_mostBytes, .int r_behind, .int r_at, .int r_kind, .int r_number])), (aI ca r_bytes 940 g_6)] H := hP
  have hD : va_D A [(h0, .inr (6, [.ref r_bytes, .int 13, .int r_faultKind, .int r_faultAt, .long r_letters, .int r_mostBytes, .int r_behind, .int r_at, .int r_kind, .int r_number])), (aI ca r_bytes 940 g_6)] := hD
  refine lv_aload_n hx hb dX6_append_33 rfl (lv_at hl 1 rfl) ?_
  refine lv_dup hx hb dX6_append_34 rfl ?_
  refine va_get (D := D) (ci := 6) (v := .int 13) (C := RX6) (T := TX6) (N := 10) hx hb hts k2 hown hK.1 hP 0 rfl rfl 1 (by decide) k1 (fun _ h9 => h9) rfl dX6_append_35 ?_
  refine lv_iconst (v := 1) hx hb dX6_append_38 (by decide) ?_
  refine lv_iadd hx hb dX6_append_39 ?_
  refine oti 14 (by decide) ?_
  refine va_put (D := D) (ci := 6) (v := .int 14) (ty := .int) (C := RX6) (T := TX6) (N := 10) hx hb hts k2 tyX6 tyX6_ok nmX6 hown hK.1 hP hD hS 0 rfl rfl 1 (by decide) k1 (fun _ h9 => h9) rfl (by decide +kernel) rfl rfl (Nat.le_of_ble_eq_true rfl) dX6_append_40 (fun H locs hP hD hS => ?_)
  have hP : va_P D vwCl [(h0, .inr (6, [.ref r_bytes, .int 14, .int r_faultKind, .int r_faultAt, .long r_letters, .int r_mostBytes, .int r_behind, .int r_at, .int r_kind, .int r_number])), (aI ca r_bytes 940 g_6)] H := hP
  have hD : va_D A [(h0, .inr (6, [.ref r_bytes, .int 14, .int r_faultKind, .int r_faultAt, .long r_letters, .int r_mostBytes, .int r_behind, .int r_at, .int r_kind, .int r_number])), (aI ca r_bytes 940 g_6)] := hD
  refine lv_iinc (v := 8) (lv' := [(2, .int 8), (0, .ref h0), (1, .int p0)]) hx hb dX6_append_43 hl (k := 0) rfl (by decide) (by decide) rfl (fun ls hl => ?_)
  refine lv_goto (tgt := 3) hx hb dX6_append_46 (by decide) ?_
  refine lv_iload_n hx hb dX6_append_3 rfl (lv_at hl 0 rfl) ?_
  refine lv_if_lt (tgt := 49) hx hb dX6_append_4 (by decide) (fun c => absurd c (by decide)) (fun _ => ?_)
  refine lv_aload_n hx hb dX6_append_7 rfl (lv_at hl 1 rfl) ?_
  refine va_get (D := D) (ci := 6) (v := .int 14) (C := RX6) (T := TX6) (N := 10) hx hb hts k2 hown hK.1 hP 0 rfl rfl 1 (by decide) k1 (fun _ h9 => h9) rfl dX6_append_8 ?_
  refine lv_sipush (v := 940) hx hb dX6_append_11 (by decide) ?_
  refine lv_icmp_ge (tgt := 49) hx hb dX6_append_14 (by decide) (fun c => absurd c (by decide)) (fun _ => ?_)
  refine lv_aload_n hx hb dX6_append_17 rfl (lv_at hl 1 rfl) ?_
  refine va_get (D := D) (ci := 6) (v := .ref r_bytes) (C := RX6) (T := TX6) (N := 10) hx hb hts k2 hown hK.1 hP 0 rfl rfl 0 (by decide) k3 (fun _ h9 => h9) rfl dX6_append_18 ?_
  refine lv_aload_n hx hb dX6_append_21 rfl (lv_at hl 1 rfl) ?_
  refine va_get (D := D) (ci := 6) (v := .int 14) (C := RX6) (T := TX6) (N := 10) hx hb hts k2 hown hK.1 hP 0 rfl rfl 1 (by decide) k1 (fun _ h9 => h9) rfl dX6_append_22 ?_
  refine lv_iload_n hx hb dX6_append_25 rfl (lv_at hl 2 rfl) ?_
  refine lv_iload_n hx hb dX6_append_26 rfl (lv_at hl 0 rfl) ?_
  refine lv_iushr hx hb dX6_append_27 rfl ?_
  refine lv_topi (fun x_7 ex_7 => ?_)
  refine lv_sipush (v := 255) hx hb dX6_append_28 (by decide) ?_
  refine lv_iand hx hb dX6_append_31 ?_
  refine lv_topi (fun x_8 ex_8 => ?_)
  refine va_iast hx hb hK.1 hP hD hS 1 0 rfl rfl (oin (k := 14) (by decide) (by decide) rfl) dX6_append_32 (fun H locs hP hD hS => ?_)
  obtain ⟨g_9, eg_9⟩ : ∃ y : Nat → Int32, y = upd g_6 (14 : Int32).toNatClampNeg x_8 := ⟨_, rfl⟩
  rw [← eg_9] at hP hD
  have eg_9 : g_9 = upd g_6 14 x_8 := eg_9.trans (oze g_6 14 x_8 rfl (by decide))
  have hP : va_P D vwCl [(h0, .inr (6, [.ref r_bytes, .int 14, .int r_faultKind, .int r_faultAt, .long r_letters, .int r_mostBytes, .int r_behind, .int r_at, .int r_kind, .int r_number])), (aI ca r_bytes 940 g_9)] H := hP
  have hD : va_D A [(h0, .inr (6, [.ref r_bytes, .int 14, .int r_faultKind, .int r_faultAt, .long r_letters, .int r_mostBytes, .int r_behind, .int r_at, .int r_kind, .int r_number])), (aI ca r_bytes 940 g_9)] := hD
  refine lv_aload_n hx hb dX6_append_33 rfl (lv_at hl 1 rfl) ?_
  refine lv_dup hx hb dX6_append_34 rfl ?_
  refine va_get (D := D) (ci := 6) (v := .int 14) (C := RX6) (T := TX6) (N := 10) hx hb hts k2 hown hK.1 hP 0 rfl rfl 1 (by decide) k1 (fun _ h9 => h9) rfl dX6_append_35 ?_
  refine lv_iconst (v := 1) hx hb dX6_append_38 (by decide) ?_
  refine lv_iadd hx hb dX6_append_39 ?_
  refine oti 15 (by decide) ?_
  refine va_put (D := D) (ci := 6) (v := .int 15) (ty := .int) (C := RX6) (T := TX6) (N := 10) hx hb hts k2 tyX6 tyX6_ok nmX6 hown hK.1 hP hD hS 0 rfl rfl 1 (by decide) k1 (fun _ h9 => h9) rfl (by decide +kernel) rfl rfl (Nat.le_of_ble_eq_true rfl) dX6_append_40 (fun H locs hP hD hS => ?_)
  have hP : va_P D vwCl [(h0, .inr (6, [.ref r_bytes, .int 15, .int r_faultKind, .int r_faultAt, .long r_letters, .int r_mostBytes, .int r_behind, .int r_at, .int r_kind, .int r_number])), (aI ca r_bytes 940 g_9)] H := hP
  have hD : va_D A [(h0, .inr (6, [.ref r_bytes, .int 15, .int r_faultKind, .int r_faultAt, .long r_letters, .int r_mostBytes, .int r_behind, .int r_at, .int r_kind, .int r_number])), (aI ca r_bytes 940 g_9)] := hD
  refine lv_iinc (v := 0) (lv' := [(2, .int 0), (0, .ref h0), (1, .int p0)]) hx hb dX6_append_43 hl (k := 0) rfl (by decide) (by decide) rfl (fun ls hl => ?_)
  refine lv_goto (tgt := 3) hx hb dX6_append_46 (by decide) ?_
  refine lv_iload_n hx hb dX6_append_3 rfl (lv_at hl 0 rfl) ?_
  refine lv_if_lt (tgt := 49) hx hb dX6_append_4 (by decide) (fun c => absurd c (by decide)) (fun _ => ?_)
  refine lv_aload_n hx hb dX6_append_7 rfl (lv_at hl 1 rfl) ?_
  refine va_get (D := D) (ci := 6) (v := .int 15) (C := RX6) (T := TX6) (N := 10) hx hb hts k2 hown hK.1 hP 0 rfl rfl 1 (by decide) k1 (fun _ h9 => h9) rfl dX6_append_8 ?_
  refine lv_sipush (v := 940) hx hb dX6_append_11 (by decide) ?_
  refine lv_icmp_ge (tgt := 49) hx hb dX6_append_14 (by decide) (fun c => absurd c (by decide)) (fun _ => ?_)
  refine lv_aload_n hx hb dX6_append_17 rfl (lv_at hl 1 rfl) ?_
  refine va_get (D := D) (ci := 6) (v := .ref r_bytes) (C := RX6) (T := TX6) (N := 10) hx hb hts k2 hown hK.1 hP 0 rfl rfl 0 (by decide) k3 (fun _ h9 => h9) rfl dX6_append_18 ?_
  refine lv_aload_n hx hb dX6_append_21 rfl (lv_at hl 1 rfl) ?_
  refine va_get (D := D) (ci := 6) (v := .int 15) (C := RX6) (T := TX6) (N := 10) hx hb hts k2 hown hK.1 hP 0 rfl rfl 1 (by decide) k1 (fun _ h9 => h9) rfl dX6_append_22 ?_
  refine lv_iload_n hx hb dX6_append_25 rfl (lv_at hl 2 rfl) ?_
  refine lv_iload_n hx hb dX6_append_26 rfl (lv_at hl 0 rfl) ?_
  refine lv_iushr hx hb dX6_append_27 rfl ?_
  refine lv_topi (fun x_10 ex_10 => ?_)
  refine lv_sipush (v := 255) hx hb dX6_append_28 (by decide) ?_
  refine lv_iand hx hb dX6_append_31 ?_
  refine lv_topi (fun x_11 ex_11 => ?_)
  refine va_iast hx hb hK.1 hP hD hS 1 0 rfl rfl (oin (k := 15) (by decide) (by decide) rfl) dX6_append_32 (fun H locs hP hD hS => ?_)
  obtain ⟨g_12, eg_12⟩ : ∃ y : Nat → Int32, y = upd g_9 (15 : Int32).toNatClampNeg x_11 := ⟨_, rfl⟩
  rw [← eg_12] at hP hD
  have eg_12 : g_12 = upd g_9 15 x_11 := eg_12.trans (oze g_9 15 x_11 rfl (by decide))
  have hP : va_P D vwCl [(h0, .inr (6, [.ref r_bytes, .int 15, .int r_faultKind, .int r_faultAt, .long r_letters, .int r_mostBytes, .int r_behind, .int r_at, .int r_kind, .int r_number])), (aI ca r_bytes 940 g_12)] H := hP
  have hD : va_D A [(h0, .inr (6, [.ref r_bytes, .int 15, .int r_faultKind, .int r_faultAt, .long r_letters, .int r_mostBytes, .int r_behind, .int r_at, .int r_kind, .int r_number])), (aI ca r_bytes 940 g_12)] := hD
  refine lv_aload_n hx hb dX6_append_33 rfl (lv_at hl 1 rfl) ?_
  refine lv_dup hx hb dX6_append_34 rfl ?_
  refine va_get (D := D) (ci := 6) (v := .int 15) (C := RX6) (T := TX6) (N := 10) hx hb hts k2 hown hK.1 hP 0 rfl rfl 1 (by decide) k1 (fun _ h9 => h9) rfl dX6_append_35 ?_
  refine lv_iconst (v := 1) hx hb dX6_append_38 (by decide) ?_
  refine lv_iadd hx hb dX6_append_39 ?_
  refine oti 16 (by decide) ?_
  refine va_put (D := D) (ci := 6) (v := .int 16) (ty := .int) (C := RX6) (T := TX6) (N := 10) hx hb hts k2 tyX6 tyX6_ok nmX6 hown hK.1 hP hD hS 0 rfl rfl 1 (by decide) k1 (fun _ h9 => h9) rfl (by decide +kernel) rfl rfl (Nat.le_of_ble_eq_true rfl) dX6_append_40 (fun H locs hP hD hS => ?_)
  have hP : va_P D vwCl [(h0, .inr (6, [.ref r_bytes, .int 16, .int r_faultKind, .int r_faultAt, .long r_letters, .int r_mostBytes, .int r_behind, .int r_at, .int r_kind, .int r_number])), (aI ca r_bytes 940 g_12)] H := hP
  have hD : va_D A [(h0, .inr (6, [.ref r_bytes, .int 16, .int r_faultKind, .int r_faultAt, .long r_letters, .int r_mostBytes, .int r_behind, .int r_at, .int r_kind, .int r_number])), (aI ca r_bytes 940 g_12)] := hD
  refine lv_iinc (v := (-8)) (lv' := [(2, .int (-8)), (0, .ref h0), (1, .int p0)]) hx hb dX6_append_43 hl (k := 0) rfl (by decide) (by decide) rfl (fun ls hl => ?_)
  refine lv_goto (tgt := 3) hx hb dX6_append_46 (by decide) ?_
  refine lv_iload_n hx hb dX6_append_3 rfl (lv_at hl 0 rfl) ?_
  refine lv_if_lt (tgt := 49) hx hb dX6_append_4 (by decide) (fun _ => ?_) (fun c => absurd (by decide) c)
  exact oE_v hx hb hr hlocks hP hD hS g_12 [0, 1] rfl (by decide) trivial (Nat.le_of_ble_eq_true rfl) (Nat.le_of_ble_eq_true rfl) dX6_append_49
set_option maxHeartbeats 4000000 in
set_option maxRecDepth 100000 in
theorem c_append_16 (l : Launch) (D : va_G) (ca : Nat → ClassId) (sz : Nat) (h0 : Nat) (p0 : Int32) (r_bytes : Nat) (r_faultKind : Int32) (r_faultAt : Int32) (r_letters : Int64) (r_mostBytes : Int32) (r_behind : Int32) (r_at : Int32) (r_kind : Int32) (r_number : Int32) (fb : Nat → Int32)  : oMet l yX6_append wsX6_append ({ frames := 0, cells := 0, slots := 0, locals := 0 } : Room) [.ref h0, .int p0] D ca sz [(h0, .inr (6, [.ref r_bytes, .int 16, .int r_faultKind, .int r_faultAt, .long r_letters, .int r_mostBytes, .int r_behind, .int r_at, .int r_kind, .int r_number])), (aI ca r_bytes 940 fb)] (oQv D (fun (u : (Nat → Int32)) => True) (fun (u : (Nat → Int32)) => [(h0, .inr (6, [.ref r_bytes, .int 20, .int r_faultKind, .int r_faultAt, .long r_letters, .int r_mostBytes, .int r_behind, .int r_at, .int r_kind, .int r_number])), (aI ca r_bytes 940 u)])) 0 0 := by
  refine oM (cc := cX6_append) (maxL := 3) (ret := none) (by decide) rfl (Nat.le_of_ble_eq_true rfl) [(0, .ref h0), (1, .int p0)] rfl ?_
  intro p e s m below meth c A H locs ls hx hb hr hml hts hown hlocks hin hK hP hD hA hS hl
  have hown : s.vm.findClass RX6 = some m.cls := hown
  have k1 := hts (.fieldLink RX6 15 "LidCourt$Reader" "length" "I") (by decide +kernel)
  have k2 : ∀ w ∈ wsX60, w ∈ wsX6_append := fun _ h => List.mem_cons_of_mem _ (List.mem_append_right _ h)
  have k3 := hts (.fieldLink RX6 9 "LidCourt$Reader" "bytes" "[I") (by decide +kernel)
  refine lv_bipush (v := 24) hx hb dX6_append_0 (by decide) ?_
  refine lv_istore_n (lv' := [(2, .int 24), (0, .ref h0), (1, .int p0)]) hx hb dX6_append_2 rfl hl (by decide) rfl (fun ls hl => ?_)
  refine lv_iload_n hx hb dX6_append_3 rfl (lv_at hl 0 rfl) ?_
  refine lv_if_lt (tgt := 49) hx hb dX6_append_4 (by decide) (fun c => absurd c (by decide)) (fun _ => ?_)
  refine lv_aload_n hx hb dX6_append_7 rfl (lv_at hl 1 rfl) ?_
  refine va_get (D := D) (ci := 6) (v := .int 16) (C := RX6) (T := TX6) (N := 10) hx hb hts k2 hown hK.1 hP 0 rfl rfl 1 (by decide) k1 (fun _ h9 => h9) rfl dX6_append_8 ?_
  refine lv_sipush (v := 940) hx hb dX6_append_11 (by decide) ?_
  refine lv_icmp_ge (tgt := 49) hx hb dX6_append_14 (by decide) (fun c => absurd c (by decide)) (fun _ => ?_)
  refine lv_aload_n hx hb dX6_append_17 rfl (lv_at hl 1 rfl) ?_
  refine va_get (D := D) (ci := 6) (v := .ref r_bytes) (C := RX6) (T := TX6) (N := 10) hx hb hts k2 hown hK.1 hP 0 rfl rfl 0 (by decide) k3 (fun _ h9 => h9) rfl dX6_append_18 ?_
  refine lv_aload_n hx hb dX6_append_21 rfl (lv_at hl 1 rfl) ?_
  refine va_get (D := D) (ci := 6) (v := .int 16) (C := RX6) (T := TX6) (N := 10) hx hb hts k2 hown hK.1 hP 0 rfl rfl 1 (by decide) k1 (fun _ h9 => h9) rfl dX6_append_22 ?_
  refine lv_iload_n hx hb dX6_append_25 rfl (lv_at hl 2 rfl) ?_
  refine lv_iload_n hx hb dX6_append_26 rfl (lv_at hl 0 rfl) ?_
  refine lv_iushr hx hb dX6_append_27 rfl ?_
  refine lv_topi (fun x_1 ex_1 => ?_)
  refine lv_sipush (v := 255) hx hb dX6_append_28 (by decide) ?_
  refine lv_iand hx hb dX6_append_31 ?_
  refine lv_topi (fun x_2 ex_2 => ?_)
  refine va_iast hx hb hK.1 hP hD hS 1 0 rfl rfl (oin (k := 16) (by decide) (by decide) rfl) dX6_append_32 (fun H locs hP hD hS => ?_)
  obtain ⟨g_3, eg_3⟩ : ∃ y : Nat → Int32, y = upd fb (16 : Int32).toNatClampNeg x_2 := ⟨_, rfl⟩
  rw [← eg_3] at hP hD
  have eg_3 : g_3 = upd fb 16 x_2 := eg_3.trans (oze fb 16 x_2 rfl (by decide))
  have hP : va_P D vwCl [(h0, .inr (6, [.ref r_bytes, .int 16, .int r_faultKind, .int r_faultAt, .long r_letters, .int r_mostBytes, .int r_behind, .int r_at, .int r_kind, .int r_number])), (aI ca r_bytes 940 g_3)] H := hP
  have hD : va_D A [(h0, .inr (6, [.ref r_bytes, .int 16, .int r_faultKind, .int r_faultAt, .long r_letters, .int r_mostBytes, .int r_behind, .int r_at, .int r_kind, .int r_number])), (aI ca r_bytes 940 g_3)] := hD
  refine lv_aload_n hx hb dX6_append_33 rfl (lv_at hl 1 rfl) ?_
  refine lv_dup hx hb dX6_append_34 rfl ?_
  refine va_get (D := D) (ci := 6) (v := .int 16) (C := RX6) (T := TX6) (N := 10) hx hb hts k2 hown hK.1 hP 0 rfl rfl 1 (by decide) k1 (fun _ h9 => h9) rfl dX6_append_35 ?_
  refine lv_iconst (v := 1) hx hb dX6_append_38 (by decide) ?_
  refine lv_iadd hx hb dX6_append_39 ?_
  refine oti 17 (by decide) ?_
  refine va_put (D := D) (ci := 6) (v := .int 17) (ty := .int) (C := RX6) (T := TX6) (N := 10) hx hb hts k2 tyX6 tyX6_ok nmX6 hown hK.1 hP hD hS 0 rfl rfl 1 (by decide) k1 (fun _ h9 => h9) rfl (by decide +kernel) rfl rfl (Nat.le_of_ble_eq_true rfl) dX6_append_40 (fun H locs hP hD hS => ?_)
  have hP : va_P D vwCl [(h0, .inr (6, [.ref r_bytes, .int 17, .int r_faultKind, .int r_faultAt, .long r_letters, .int r_mostBytes, .int r_behind, .int r_at, .int r_kind, .int r_number])), (aI ca r_bytes 940 g_3)] H := hP
  have hD : va_D A [(h0, .inr (6, [.ref r_bytes, .int 17, .int r_faultKind, .int r_faultAt, .long r_letters, .int r_mostBytes, .int r_behind, .int r_at, .int r_kind, .int r_number])), (aI ca r_bytes 940 g_3)] := hD
  refine lv_iinc (v := 16) (lv' := [(2, .int 16), (0, .ref h0), (1, .int p0)]) hx hb dX6_append_43 hl (k := 0) rfl (by decide) (by decide) rfl (fun ls hl => ?_)
  refine lv_goto (tgt := 3) hx hb dX6_append_46 (by decide) ?_
  refine lv_iload_n hx hb dX6_append_3 rfl (lv_at hl 0 rfl) ?_
  refine lv_if_lt (tgt := 49) hx hb dX6_append_4 (by decide) (fun c => absurd c (by decide)) (fun _ => ?_)
  refine lv_aload_n hx hb dX6_append_7 rfl (lv_at hl 1 rfl) ?_
  refine va_get (D := D) (ci := 6) (v := .int 17) (C := RX6) (T := TX6) (N := 10) hx hb hts k2 hown hK.1 hP 0 rfl rfl 1 (by decide) k1 (fun _ h9 => h9) rfl dX6_append_8 ?_
  refine lv_sipush (v := 940) hx hb dX6_append_11 (by decide) ?_
  refine lv_icmp_ge (tgt := 49) hx hb dX6_append_14 (by decide) (fun c => absurd c (by decide)) (fun _ => ?_)
  refine lv_aload_n hx hb dX6_append_17 rfl (lv_at hl 1 rfl) ?_
  refine va_get (D := D) (ci := 6) (v := .ref r_bytes) (C := RX6) (T := TX6) (N := 10) hx hb hts k2 hown hK.1 hP 0 rfl rfl 0 (by decide) k3 (fun _ h9 => h9) rfl dX6_append_18 ?_
  refine lv_aload_n hx hb dX6_append_21 rfl (lv_at hl 1 rfl) ?_
  refine va_get (D := D) (ci := 6) (v := .int 17) (C := RX6) (T := TX6) (N := 10) hx hb hts k2 hown hK.1 hP 0 rfl rfl 1 (by decide) k1 (fun _ h9 => h9) rfl dX6_append_22 ?_
  refine lv_iload_n hx hb dX6_append_25 rfl (lv_at hl 2 rfl) ?_
  refine lv_iload_n hx hb dX6_append_26 rfl (lv_at hl 0 rfl) ?_
  refine lv_iushr hx hb dX6_append_27 rfl ?_
  refine lv_topi (fun x_4 ex_4 => ?_)
  refine lv_sipush (v := 255) hx hb dX6_append_28 (by decide) ?_
  refine lv_iand hx hb dX6_append_31 ?_
  refine lv_topi (fun x_5 ex_5 => ?_)
  refine va_iast hx hb hK.1 hP hD hS 1 0 rfl rfl (oin (k := 17) (by decide) (by decide) rfl) dX6_append_32 (fun H locs hP hD hS => ?_)
  obtain ⟨g_6, eg_6⟩ : ∃ y : Nat → Int32, y = upd g_3 (17 : Int32).toNatClampNeg x_5 := ⟨_, rfl⟩
  rw [← eg_6] at hP hD
  have eg_6 : g_6 = upd g_3 17 x_5 := eg_6.trans (oze g_3 17 x_5 rfl (by decide))
  have hP : va_P D vwCl [(h0, .inr (6, [.ref r_bytes, .int 17, .int r_faultKind, .int r_faultAt, .long r_letters, .int r_mostBytes, .int r_behind, .int r_at, .int r_kind, .int r_number])), (aI ca r_bytes 940 g_6)] H := hP
  have hD : va_D A [(h0, .inr (6, [.ref r_bytes, .int 17, .int r_faultKind, .int r_faultAt, .long r_letters, .int r_mostBytes, .int r_behind, .int r_at, .int r_kind, .int r_number])), (aI ca r_bytes 940 g_6)] := hD
  refine lv_aload_n hx hb dX6_append_33 rfl (lv_at hl 1 rfl) ?_
  refine lv_dup hx hb dX6_append_34 rfl ?_
  refine va_get (D := D) (ci := 6) (v := .int 17) (C := RX6) (T := TX6) (N := 10) hx hb hts k2 hown hK.1 hP 0 rfl rfl 1 (by decide) k1 (fun _ h9 => h9) rfl dX6_append_35 ?_
  refine lv_iconst (v := 1) hx hb dX6_append_38 (by decide) ?_
  refine lv_iadd hx hb dX6_append_39 ?_
  refine oti 18 (by decide) ?_
  refine va_put (D := D) (ci := 6) (v := .int 18) (ty := .int) (C := RX6) (T := TX6) (N := 10) hx hb hts k2 tyX6 tyX6_ok nmX6 hown hK.1 hP hD hS 0 rfl rfl 1 (by decide) k1 (fun _ h9 => h9) rfl (by decide +kernel) rfl rfl (Nat.le_of_ble_eq_true rfl) dX6_append_40 (fun H locs hP hD hS => ?_)
  have hP : va_P D vwCl [(h0, .inr (6, [.ref r_bytes, .int 18, .int r_faultKind, .int r_faultAt, .long r_letters, .int r_mostBytes, .int r_behind, .int r_at, .int r_kind, .int r_number])), (aI ca r_bytes 940 g_6)] H := hP
  have hD : va_D A [(h0, .inr (6, [.ref r_bytes, .int 18, .int r_faultKind, .int r_faultAt, .long r_letters, .int r_mostBytes, .int r_behind, .int r_at, .int r_kind, .int r_number])), (aI ca r_bytes 940 g_6)] := hD
  refine lv_iinc (v := 8) (lv' := [(2, .int 8), (0, .ref h0), (1, .int p0)]) hx hb dX6_append_43 hl (k := 0) rfl (by decide) (by decide) rfl (fun ls hl => ?_)
  refine lv_goto (tgt := 3) hx hb dX6_append_46 (by decide) ?_
  refine lv_iload_n hx hb dX6_append_3 rfl (lv_at hl 0 rfl) ?_
  refine lv_if_lt (tgt := 49) hx hb dX6_append_4 (by decide) (fun c => absurd c (by decide)) (fun _ => ?_)
  refine lv_aload_n hx hb dX6_append_7 rfl (lv_at hl 1 rfl) ?_
  refine va_get (D := D) (ci := 6) (v := .int 18) (C := RX6) (T := TX6) (N := 10) hx hb hts k2 hown hK.1 hP 0 rfl rfl 1 (by decide) k1 (fun _ h9 => h9) rfl dX6_append_8 ?_
  refine lv_sipush (v := 940) hx hb dX6_append_11 (by decide) ?_
  refine lv_icmp_ge (tgt := 49) hx hb dX6_append_14 (by decide) (fun c => absurd c (by decide)) (fun _ => ?_)
  refine lv_aload_n hx hb dX6_append_17 rfl (lv_at hl 1 rfl) ?_
  refine va_get (D := D) (ci := 6) (v := .ref r_bytes) (C := RX6) (T := TX6) (N := 10) hx hb hts k2 hown hK.1 hP 0 rfl rfl 0 (by decide) k3 (fun _ h9 => h9) rfl dX6_append_18 ?_
  refine lv_aload_n hx hb dX6_append_21 rfl (lv_at hl 1 rfl) ?_
  refine va_get (D := D) (ci := 6) (v := .int 18) (C := RX6) (T := TX6) (N := 10) hx hb hts k2 hown hK.1 hP 0 rfl rfl 1 (by decide) k1 (fun _ h9 => h9) rfl dX6_append_22 ?_
  refine lv_iload_n hx hb dX6_append_25 rfl (lv_at hl 2 rfl) ?_
  refine lv_iload_n hx hb dX6_append_26 rfl (lv_at hl 0 rfl) ?_
  refine lv_iushr hx hb dX6_append_27 rfl ?_
  refine lv_topi (fun x_7 ex_7 => ?_)
  refine lv_sipush (v := 255) hx hb dX6_append_28 (by decide) ?_
  refine lv_iand hx hb dX6_append_31 ?_
  refine lv_topi (fun x_8 ex_8 => ?_)
  refine va_iast hx hb hK.1 hP hD hS 1 0 rfl rfl (oin (k := 18) (by decide) (by decide) rfl) dX6_append_32 (fun H locs hP hD hS => ?_)
  obtain ⟨g_9, eg_9⟩ : ∃ y : Nat → Int32, y = upd g_6 (18 : Int32).toNatClampNeg x_8 := ⟨_, rfl⟩
  rw [← eg_9] at hP hD
  have eg_9 : g_9 = upd g_6 18 x_8 := eg_9.trans (oze g_6 18 x_8 rfl (by decide))
  have hP : va_P D vwCl [(h0, .inr (6, [.ref r_bytes, .int 18, .int r_faultKind, .int r_faultAt, .long r_letters, .int r_mostBytes, .int r_behind, .int r_at, .int r_kind, .int r_number])), (aI ca r_bytes 940 g_9)] H := hP
  have hD : va_D A [(h0, .inr (6, [.ref r_bytes, .int 18, .int r_faultKind, .int r_faultAt, .long r_letters, .int r_mostBytes, .int r_behind, .int r_at, .int r_kind, .int r_number])), (aI ca r_bytes 940 g_9)] := hD
  refine lv_aload_n hx hb dX6_append_33 rfl (lv_at hl 1 rfl) ?_
  refine lv_dup hx hb dX6_append_34 rfl ?_
  refine va_get (D := D) (ci := 6) (v := .int 18) (C := RX6) (T := TX6) (N := 10) hx hb hts k2 hown hK.1 hP 0 rfl rfl 1 (by decide) k1 (fun _ h9 => h9) rfl dX6_append_35 ?_
  refine lv_iconst (v := 1) hx hb dX6_append_38 (by decide) ?_
  refine lv_iadd hx hb dX6_append_39 ?_
  refine oti 19 (by decide) ?_
  refine va_put (D := D) (ci := 6) (v := .int 19) (ty := .int) (C := RX6) (T := TX6) (N := 10) hx hb hts k2 tyX6 tyX6_ok nmX6 hown hK.1 hP hD hS 0 rfl rfl 1 (by decide) k1 (fun _ h9 => h9) rfl (by decide +kernel) rfl rfl (Nat.le_of_ble_eq_true rfl) dX6_append_40 (fun H locs hP hD hS => ?_)
  have hP : va_P D vwCl [(h0, .inr (6, [.ref r_bytes, .int 19, .int r_faultKind, .int r_faultAt, .long r_letters, .int r_mostBytes, .int r_behind, .int r_at, .int r_kind, .int r_number])), (aI ca r_bytes 940 g_9)] H := hP
  have hD : va_D A [(h0, .inr (6, [.ref r_bytes, .int 19, .int r_faultKind, .int r_faultAt, .long r_letters, .int r_mostBytes, .int r_behind, .int r_at, .int r_kind, .int r_number])), (aI ca r_bytes 940 g_9)] := hD
  refine lv_iinc (v := 0) (lv' := [(2, .int 0), (0, .ref h0), (1, .int p0)]) hx hb dX6_append_43 hl (k := 0) rfl (by decide) (by decide) rfl (fun ls hl => ?_)
  refine lv_goto (tgt := 3) hx hb dX6_append_46 (by decide) ?_
  refine lv_iload_n hx hb dX6_append_3 rfl (lv_at hl 0 rfl) ?_
  refine lv_if_lt (tgt := 49) hx hb dX6_append_4 (by decide) (fun c => absurd c (by decide)) (fun _ => ?_)
  refine lv_aload_n hx hb dX6_append_7 rfl (lv_at hl 1 rfl) ?_
  refine va_get (D := D) (ci := 6) (v := .int 19) (C := RX6) (T := TX6) (N := 10) hx hb hts k2 hown hK.1 hP 0 rfl rfl 1 (by decide) k1 (fun _ h9 => h9) rfl dX6_append_8 ?_
  refine lv_sipush (v := 940) hx hb dX6_append_11 (by decide) ?_
  refine lv_icmp_ge (tgt := 49) hx hb dX6_append_14 (by decide) (fun c => absurd c (by decide)) (fun _ => ?_)
  refine lv_aload_n hx hb dX6_append_17 rfl (lv_at hl 1 rfl) ?_
  refine va_get (D := D) (ci := 6) (v := .ref r_bytes) (C := RX6) (T := TX6) (N := 10) hx hb hts k2 hown hK.1 hP 0 rfl rfl 0 (by decide) k3 (fun _ h9 => h9) rfl dX6_append_18 ?_
  refine lv_aload_n hx hb dX6_append_21 rfl (lv_at hl 1 rfl) ?_
  refine va_get (D := D) (ci := 6) (v := .int 19) (C := RX6) (T := TX6) (N := 10) hx hb hts k2 hown hK.1 hP 0 rfl rfl 1 (by decide) k1 (fun _ h9 => h9) rfl dX6_append_22 ?_
  refine lv_iload_n hx hb dX6_append_25 rfl (lv_at hl 2 rfl) ?_
  refine lv_iload_n hx hb dX6_append_26 rfl (lv_at hl 0 rfl) ?_
  refine lv_iushr hx hb dX6_append_27 rfl ?_
  refine lv_topi (fun x_10 ex_10 => ?_)
  refine lv_sipush (v := 255) hx hb dX6_append_28 (by decide) ?_
  refine lv_iand hx hb dX6_append_31 ?_
  refine lv_topi (fun x_11 ex_11 => ?_)
  refine va_iast hx hb hK.1 hP hD hS 1 0 rfl rfl (oin (k := 19) (by decide) (by decide) rfl) dX6_append_32 (fun H locs hP hD hS => ?_)
  obtain ⟨g_12, eg_12⟩ : ∃ y : Nat → Int32, y = upd g_9 (19 : Int32).toNatClampNeg x_11 := ⟨_, rfl⟩
  rw [← eg_12] at hP hD
  have eg_12 : g_12 = upd g_9 19 x_11 := eg_12.trans (oze g_9 19 x_11 rfl (by decide))
  have hP : va_P D vwCl [(h0, .inr (6, [.ref r_bytes, .int 19, .int r_faultKind, .int r_faultAt, .long r_letters, .int r_mostBytes, .int r_behind, .int r_at, .int r_kind, .int r_number])), (aI ca r_bytes 940 g_12)] H := hP
  have hD : va_D A [(h0, .inr (6, [.ref r_bytes, .int 19, .int r_faultKind, .int r_faultAt, .long r_letters, .int r_mostBytes, .int r_behind, .int r_at, .int r_kind, .int r_number])), (aI ca r_bytes 940 g_12)] := hD
  refine lv_aload_n hx hb dX6_append_33 rfl (lv_at hl 1 rfl) ?_
  refine lv_dup hx hb dX6_append_34 rfl ?_
  refine va_get (D := D) (ci := 6) (v := .int 19) (C := RX6) (T := TX6) (N := 10) hx hb hts k2 hown hK.1 hP 0 rfl rfl 1 (by decide) k1 (fun _ h9 => h9) rfl dX6_append_35 ?_
  refine lv_iconst (v := 1) hx hb dX6_append_38 (by decide) ?_
  refine lv_iadd hx hb dX6_append_39 ?_
  refine oti 20 (by decide) ?_
  refine va_put (D := D) (ci := 6) (v := .int 20) (ty := .int) (C := RX6) (T := TX6) (N := 10) hx hb hts k2 tyX6 tyX6_ok nmX6 hown hK.1 hP hD hS 0 rfl rfl 1 (by decide) k1 (fun _ h9 => h9) rfl (by decide +kernel) rfl rfl (Nat.le_of_ble_eq_true rfl) dX6_append_40 (fun H locs hP hD hS => ?_)
  have hP : va_P D vwCl [(h0, .inr (6, [.ref r_bytes, .int 20, .int r_faultKind, .int r_faultAt, .long r_letters, .int r_mostBytes, .int r_behind, .int r_at, .int r_kind, .int r_number])), (aI ca r_bytes 940 g_12)] H := hP
  have hD : va_D A [(h0, .inr (6, [.ref r_bytes, .int 20, .int r_faultKind, .int r_faultAt, .long r_letters, .int r_mostBytes, .int r_behind, .int r_at, .int r_kind, .int r_number])), (aI ca r_bytes 940 g_12)] := hD
  refine lv_iinc (v := (-8)) (lv' := [(2, .int (-8)), (0, .ref h0), (1, .int p0)]) hx hb dX6_append_43 hl (k := 0) rfl (by decide) (by decide) rfl (fun ls hl => ?_)
  refine lv_goto (tgt := 3) hx hb dX6_append_46 (by decide) ?_
  refine lv_iload_n hx hb dX6_append_3 rfl (lv_at hl 0 rfl) ?_
  refine lv_if_lt (tgt := 49) hx hb dX6_append_4 (by decide) (fun _ => ?_) (fun c => absurd (by decide) c)
  exact oE_v hx hb hr hlocks hP hD hS g_12 [0, 1] rfl (by decide) trivial (Nat.le_of_ble_eq_true rfl) (Nat.le_of_ble_eq_true rfl) dX6_append_49
