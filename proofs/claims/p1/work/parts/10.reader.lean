theorem dX6_isBroken_0 : decode cX6_isBroken 0 = .ok (.aload_n 0, 1) := by decide +kernel
theorem dX6_isBroken_1 : decode cX6_isBroken 1 = .ok (.getfield 25, 3) := by decide +kernel
theorem dX6_isBroken_4 : decode cX6_isBroken 4 = .ok (.ifCond .eq 7, 3) := by decide +kernel
theorem dX6_isBroken_11 : decode cX6_isBroken 11 = .ok (.iconst 0, 1) := by decide +kernel
theorem dX6_isBroken_12 : decode cX6_isBroken 12 = .ok (.ireturn, 1) := by decide +kernel
set_option maxHeartbeats 4000000 in
set_option maxRecDepth 100000 in
theorem c_isBroken (l : Launch) (D : va_G) (ca : Nat → ClassId) (sz : Nat) (h0 : Nat) (r_bytes : Nat) (r_length : Int32) (r_faultAt : Int32) (r_letters : Int64) (r_mostBytes : Int32) (r_behind : Int32) (r_at : Int32) (r_kind : Int32) (r_number : Int32)  : oMet l yX6_isBroken wsX6_isBroken ({ frames := 0, cells := 0, slots := 0, locals := 0 } : Room) [.ref h0] D ca sz [(h0, .inr (6, [.ref r_bytes, .int r_length, .int 0, .int r_faultAt, .long r_letters, .int r_mostBytes, .int r_behind, .int r_at, .int r_kind, .int r_number]))] (oQi D (fun (r : Int32) (u : Unit) => r = 0) (fun (u : Unit) => [(h0, .inr (6, [.ref r_bytes, .int r_length, .int 0, .int r_faultAt, .long r_letters, .int r_mostBytes, .int r_behind, .int r_at, .int r_kind, .int r_number]))])) 0 0 := by
  refine oM (cc := cX6_isBroken) (maxL := 1) (ret := (some .boolean)) (by decide) rfl (Nat.le_of_ble_eq_true rfl) [(0, .ref h0)] rfl ?_
  intro p e s m below meth c A H locs ls hx hb hr hml hts hown hlocks hin hK hP hD hA hS hl
  have hown : s.vm.findClass RX6 = some m.cls := hown
  have k1 := hts (.fieldLink RX6 25 "LidCourt$Reader" "faultKind" "I") (by decide +kernel)
  have k2 : ∀ w ∈ wsX60, w ∈ wsX6_isBroken := by decide +kernel
  refine lv_aload_n hx hb dX6_isBroken_0 rfl (lv_at hl 0 rfl) ?_
  refine va_get (D := D) (ci := 6) (v := .int 0) (C := RX6) (T := TX6) (N := 10) hx hb hts k2 hown hK.1 hP 0 rfl rfl 2 (by decide) k1 (fun _ h9 => h9) rfl dX6_isBroken_1 ?_
  refine lv_if_eq (tgt := 11) hx hb dX6_isBroken_4 (by decide) (fun _ => ?_) (fun c => absurd (by decide) c)
  refine lv_iconst (v := 0) hx hb dX6_isBroken_11 (by decide) ?_
  exact oE_i hx hb hr (by decide) hlocks hP hD hS () [0] rfl (by decide) rfl (Nat.le_of_ble_eq_true rfl) (Nat.le_of_ble_eq_true rfl) dX6_isBroken_12
theorem dX6_advance_0 : decode cX6_advance 0 = .ok (.aload_n 0, 1) := by decide +kernel
theorem dX6_advance_1 : decode cX6_advance 1 = .ok (.invokevirtual 34, 3) := by decide +kernel
theorem dX6_advance_4 : decode cX6_advance 4 = .ok (.ifCond .eq 4, 3) := by decide +kernel
theorem dX6_advance_8 : decode cX6_advance 8 = .ok (.aload_n 0, 1) := by decide +kernel
theorem dX6_advance_9 : decode cX6_advance 9 = .ok (.getfield 15, 3) := by decide +kernel
theorem dX6_advance_12 : decode cX6_advance 12 = .ok (.aload_n 0, 1) := by decide +kernel
theorem dX6_advance_13 : decode cX6_advance 13 = .ok (.getfield 19, 3) := by decide +kernel
theorem dX6_advance_16 : decode cX6_advance 16 = .ok (.invokestatic 38, 3) := by decide +kernel
theorem dX6_advance_19 : decode cX6_advance 19 = .ok (.istore_n 1, 1) := by decide +kernel
theorem dX6_advance_20 : decode cX6_advance 20 = .ok (.aload_n 0, 1) := by decide +kernel
theorem dX6_advance_21 : decode cX6_advance 21 = .ok (.getfield 22, 3) := by decide +kernel
theorem dX6_advance_24 : decode cX6_advance 24 = .ok (.iload_n 1, 1) := by decide +kernel
theorem dX6_advance_25 : decode cX6_advance 25 = .ok (.if_icmp .ge 44, 3) := by decide +kernel
theorem dX6_advance_69 : decode cX6_advance 69 = .ok (.aload_n 0, 1) := by decide +kernel
theorem dX6_advance_70 : decode cX6_advance 70 = .ok (.lconst 0, 1) := by decide +kernel
theorem dX6_advance_71 : decode cX6_advance 71 = .ok (.putfield 44, 3) := by decide +kernel
theorem dX6_advance_74 : decode cX6_advance 74 = .ok (.aload_n 0, 1) := by decide +kernel
theorem dX6_advance_75 : decode cX6_advance 75 = .ok (.getfield 22, 3) := by decide +kernel
theorem dX6_advance_78 : decode cX6_advance 78 = .ok (.iload_n 1, 1) := by decide +kernel
theorem dX6_advance_79 : decode cX6_advance 79 = .ok (.if_icmp .lt 29, 3) := by decide +kernel
theorem dX6_advance_82 : decode cX6_advance 82 = .ok (.aload_n 0, 1) := by decide +kernel
theorem dX6_advance_83 : decode cX6_advance 83 = .ok (.iload_n 1, 1) := by decide +kernel
theorem dX6_advance_84 : decode cX6_advance 84 = .ok (.putfield 48, 3) := by decide +kernel
theorem dX6_advance_87 : decode cX6_advance 87 = .ok (.aload_n 0, 1) := by decide +kernel
theorem dX6_advance_88 : decode cX6_advance 88 = .ok (.aload_n 0, 1) := by decide +kernel
theorem dX6_advance_89 : decode cX6_advance 89 = .ok (.getfield 15, 3) := by decide +kernel
theorem dX6_advance_92 : decode cX6_advance 92 = .ok (.aload_n 0, 1) := by decide +kernel
theorem dX6_advance_93 : decode cX6_advance 93 = .ok (.getfield 19, 3) := by decide +kernel
theorem dX6_advance_96 : decode cX6_advance 96 = .ok (.if_icmp .le 7, 3) := by decide +kernel
theorem dX6_advance_103 : decode cX6_advance 103 = .ok (.iconst 1, 1) := by decide +kernel
theorem dX6_advance_104 : decode cX6_advance 104 = .ok (.putfield 51, 3) := by decide +kernel
theorem dX6_advance_107 : decode cX6_advance 107 = .ok (.return_, 1) := by decide +kernel
set_option maxRecDepth 20000 in
theorem ggX6_advance_X6_isBroken : GoodIn wsX6_advance wsX6_isBroken := goodIn_r _ [16, 17, 27, 28, 29, 30, 31, 32, 33, 34, 35, 36] (by decide +kernel) (by decide +kernel)
set_option maxRecDepth 20000 in
theorem gX6_advance_X6_isBroken : GoodIn wsX6_advance (wsV RX6 34 RX6 yX6_isBroken wsX6_isBroken) := goodIn_app (goodIn_of _ (by decide +kernel)) ggX6_advance_X6_isBroken
set_option maxHeartbeats 4000000 in
set_option maxRecDepth 100000 in
theorem c_advance_900 (l : Launch) (D : va_G) (ca : Nat → ClassId) (sz : Nat) (h0 : Nat) (r_bytes : Nat) (r_faultAt : Int32) (r_letters : Int64) (r_at : Int32) (r_kind : Int32) (r_number : Int32)  : oMet l yX6_advance wsX6_advance ({ frames := 1, cells := 0, slots := 0, locals := 20 } : Room) [.ref h0] D ca sz [(h0, .inr (6, [.ref r_bytes, .int 0, .int 0, .int r_faultAt, .long r_letters, .int 900, .int 0, .int r_at, .int r_kind, .int r_number]))] (oQv D (fun (u : Unit) => True) (fun (u : Unit) => [(h0, .inr (6, [.ref r_bytes, .int 0, .int 0, .int r_faultAt, .long 0, .int 900, .int 0, .int 0, .int 1, .int r_number]))])) 0 0 := by
  refine oM (cc := cX6_advance) (maxL := 2) (ret := none) (by decide) rfl (Nat.le_of_ble_eq_true rfl) [(0, .ref h0)] rfl ?_
  intro p e s m below meth c A H locs ls hx hb hr hml hts hown hlocks hin hK hP hD hA hS hl
  have hown : s.vm.findClass RX6 = some m.cls := hown
  have k1 := hts (.fieldLink RX6 15 "LidCourt$Reader" "length" "I") (by decide +kernel)
  have k2 : ∀ w ∈ wsX60, w ∈ wsX6_advance := by decide +kernel
  have k3 := hts (.fieldLink RX6 19 "LidCourt$Reader" "mostBytes" "I") (by decide +kernel)
  have k4 := hts (.methodLink RX6 38 Lib.Math.min.name) (by decide +kernel)
  have k5 := hts (.static Lib.Math.min.name) (by decide +kernel)
  have k6 := hts (.initialized "java/lang/Math") (by decide +kernel)
  have k7 := hts (.code Lib.Math.min.name Lib.Math.min.code 2 (some .int)) (by decide +kernel)
  have k8 := hts (.fieldLink RX6 22 "LidCourt$Reader" "behind" "I") (by decide +kernel)
  have k9 := hts (.fieldLink RX6 44 "LidCourt$Reader" "letters" "J") (by decide +kernel)
  have k10 := hts (.fieldLink RX6 48 "LidCourt$Reader" "at" "I") (by decide +kernel)
  have k11 := hts (.fieldLink RX6 51 "LidCourt$Reader" "kind" "I") (by decide +kernel)
  refine lv_aload_n hx hb dX6_advance_0 rfl (lv_at hl 0 rfl) ?_
  refine oC_i (Wc := [(h0, .inr (6, [.ref r_bytes, .int 0, .int 0, .int r_faultAt, .long r_letters, .int 900, .int 0, .int r_at, .int r_kind, .int r_number]))]) (Wr := []) (va_runV (As := []) (rest := []) ⟨hx, hb, hml, hown, hts⟩ (c_isBroken l D ca H.size h0 r_bytes 0 r_faultAt r_letters 900 0 r_at r_kind r_number) (cwV 0 hts gX6_advance_X6_isBroken rfl rfl rfl (by decide +kernel) ⟨Nat.le_of_ble_eq_true rfl, Nat.le_of_ble_eq_true rfl⟩) (oPV (C := RX6) hK hP hD [0] rfl (by decide) 0 rfl (ci := 6) rfl rfl) rfl rfl hl.1 rfl (lv_room (Nat.le_of_ble_eq_true rfl)) dX6_advance_1 ⟨Nat.le_of_ble_eq_true rfl, Nat.le_of_ble_eq_true rfl⟩) hP hD hS hA [0] [] rfl rfl (by decide) (by decide) (fun r_1 u H locs w_2 hP hD hS => ?_)
  obtain ⟨⟩ := u
  try dsimp only at w_2
  subst w_2
  have hP : va_P D vwCl [(h0, .inr (6, [.ref r_bytes, .int 0, .int 0, .int r_faultAt, .long r_letters, .int 900, .int 0, .int r_at, .int r_kind, .int r_number]))] H := hP
  have hD : va_D A [(h0, .inr (6, [.ref r_bytes, .int 0, .int 0, .int r_faultAt, .long r_letters, .int 900, .int 0, .int r_at, .int r_kind, .int r_number]))] := hD
  refine lv_if_eq (tgt := 8) hx hb dX6_advance_4 (by decide) (fun _ => ?_) (fun c => absurd (by decide) c)
  refine lv_aload_n hx hb dX6_advance_8 rfl (lv_at hl 0 rfl) ?_
  refine va_get (D := D) (ci := 6) (v := .int 0) (C := RX6) (T := TX6) (N := 10) hx hb hts k2 hown hK.1 hP 0 rfl rfl 1 (by decide) k1 (fun _ h9 => h9) rfl dX6_advance_9 ?_
  refine lv_aload_n hx hb dX6_advance_12 rfl (lv_at hl 0 rfl) ?_
  refine va_get (D := D) (ci := 6) (v := .int 900) (C := RX6) (T := TX6) (N := 10) hx hb hts k2 hown hK.1 hP 0 rfl rfl 5 (by decide) k3 (fun _ h9 => h9) rfl dX6_advance_13 ?_
  refine va_mmin hx hb (by rw [hml]; exact hl.1.symm) hown k4 k5 k6 k7 (Nat.le_of_ble_eq_true rfl) (Nat.le_of_ble_eq_true rfl) (Nat.le_of_ble_eq_true rfl) (Nat.le_of_ble_eq_true rfl) dX6_advance_16 ?_
  refine oti 0 (by decide) ?_
  refine lv_istore_n (lv' := [(1, .int 0), (0, .ref h0)]) hx hb dX6_advance_19 rfl hl (by decide) rfl (fun ls hl => ?_)
  refine lv_aload_n hx hb dX6_advance_20 rfl (lv_at hl 1 rfl) ?_
  refine va_get (D := D) (ci := 6) (v := .int 0) (C := RX6) (T := TX6) (N := 10) hx hb hts k2 hown hK.1 hP 0 rfl rfl 6 (by decide) k8 (fun _ h9 => h9) rfl dX6_advance_21 ?_
  refine lv_iload_n hx hb dX6_advance_24 rfl (lv_at hl 0 rfl) ?_
  refine lv_icmp_ge (tgt := 69) hx hb dX6_advance_25 (by decide) (fun _ => ?_) (fun c => absurd (by decide) c)
  refine lv_aload_n hx hb dX6_advance_69 rfl (lv_at hl 1 rfl) ?_
  refine lv_lconst (v := 0) hx hb dX6_advance_70 (by decide) ?_
  refine va_put (D := D) (ci := 6) (v := .long 0) (ty := .long) (C := RX6) (T := TX6) (N := 10) hx hb hts k2 tyX6 tyX6_ok nmX6 hown hK.1 hP hD hS 0 rfl rfl 4 (by decide) k9 (fun _ h9 => h9) rfl (by decide +kernel) rfl rfl (Nat.le_of_ble_eq_true rfl) dX6_advance_71 (fun H locs hP hD hS => ?_)
  have hP : va_P D vwCl [(h0, .inr (6, [.ref r_bytes, .int 0, .int 0, .int r_faultAt, .long 0, .int 900, .int 0, .int r_at, .int r_kind, .int r_number]))] H := hP
  have hD : va_D A [(h0, .inr (6, [.ref r_bytes, .int 0, .int 0, .int r_faultAt, .long 0, .int 900, .int 0, .int r_at, .int r_kind, .int r_number]))] := hD
  refine lv_aload_n hx hb dX6_advance_74 rfl (lv_at hl 1 rfl) ?_
  refine va_get (D := D) (ci := 6) (v := .int 0) (C := RX6) (T := TX6) (N := 10) hx hb hts k2 hown hK.1 hP 0 rfl rfl 6 (by decide) k8 (fun _ h9 => h9) rfl dX6_advance_75 ?_
  refine lv_iload_n hx hb dX6_advance_78 rfl (lv_at hl 0 rfl) ?_
  refine lv_icmp_lt (tgt := 108) hx hb dX6_advance_79 (by decide) (fun c => absurd c (by decide)) (fun _ => ?_)
  refine lv_aload_n hx hb dX6_advance_82 rfl (lv_at hl 1 rfl) ?_
  refine lv_iload_n hx hb dX6_advance_83 rfl (lv_at hl 0 rfl) ?_
  refine va_put (D := D) (ci := 6) (v := .int 0) (ty := .int) (C := RX6) (T := TX6) (N := 10) hx hb hts k2 tyX6 tyX6_ok nmX6 hown hK.1 hP hD hS 0 rfl rfl 7 (by decide) k10 (fun _ h9 => h9) rfl (by decide +kernel) rfl rfl (Nat.le_of_ble_eq_true rfl) dX6_advance_84 (fun H locs hP hD hS => ?_)
  have hP : va_P D vwCl [(h0, .inr (6, [.ref r_bytes, .int 0, .int 0, .int r_faultAt, .long 0, .int 900, .int 0, .int 0, .int r_kind, .int r_number]))] H := hP
  have hD : va_D A [(h0, .inr (6, [.ref r_bytes, .int 0, .int 0, .int r_faultAt, .long 0, .int 900, .int 0, .int 0, .int r_kind, .int r_number]))] := hD
  refine lv_aload_n hx hb dX6_advance_87 rfl (lv_at hl 1 rfl) ?_
  refine lv_aload_n hx hb dX6_advance_88 rfl (lv_at hl 1 rfl) ?_
  refine va_get (D := D) (ci := 6) (v := .int 0) (C := RX6) (T := TX6) (N := 10) hx hb hts k2 hown hK.1 hP 0 rfl rfl 1 (by decide) k1 (fun _ h9 => h9) rfl dX6_advance_89 ?_
  refine lv_aload_n hx hb dX6_advance_92 rfl (lv_at hl 1 rfl) ?_
  refine va_get (D := D) (ci := 6) (v := .int 900) (C := RX6) (T := TX6) (N := 10) hx hb hts k2 hown hK.1 hP 0 rfl rfl 5 (by decide) k3 (fun _ h9 => h9) rfl dX6_advance_93 ?_
  refine lv_icmp_le (tgt := 103) hx hb dX6_advance_96 (by decide) (fun _ => ?_) (fun c => absurd (by decide) c)
  refine lv_iconst (v := 1) hx hb dX6_advance_103 (by decide) ?_
  refine va_put (D := D) (ci := 6) (v := .int 1) (ty := .int) (C := RX6) (T := TX6) (N := 10) hx hb hts k2 tyX6 tyX6_ok nmX6 hown hK.1 hP hD hS 0 rfl rfl 8 (by decide) k11 (fun _ h9 => h9) rfl (by decide +kernel) rfl rfl (Nat.le_of_ble_eq_true rfl) dX6_advance_104 (fun H locs hP hD hS => ?_)
  have hP : va_P D vwCl [(h0, .inr (6, [.ref r_bytes, .int 0, .int 0, .int r_faultAt, .long 0, .int 900, .int 0, .int 0, .int 1, .int r_number]))] H := hP
  have hD : va_D A [(h0, .inr (6, [.ref r_bytes, .int 0, .int 0, .int r_faultAt, .long 0, .int 900, .int 0, .int 0, .int 1, .int r_number]))] := hD
  exact oE_v hx hb hr hlocks hP hD hS () [0] rfl (by decide) trivial (Nat.le_of_ble_eq_true rfl) (Nat.le_of_ble_eq_true rfl) dX6_advance_107
theorem dX6_begin_0 : decode cX6_begin 0 = .ok (.aload_n 0, 1) := by decide +kernel
theorem dX6_begin_1 : decode cX6_begin 1 = .ok (.iload_n 1, 1) := by decide +kernel
theorem dX6_begin_2 : decode cX6_begin 2 = .ok (.putfield 19, 3) := by decide +kernel
theorem dX6_begin_5 : decode cX6_begin 5 = .ok (.aload_n 0, 1) := by decide +kernel
theorem dX6_begin_6 : decode cX6_begin 6 = .ok (.iconst 0, 1) := by decide +kernel
theorem dX6_begin_7 : decode cX6_begin 7 = .ok (.putfield 22, 3) := by decide +kernel
theorem dX6_begin_10 : decode cX6_begin 10 = .ok (.aload_n 0, 1) := by decide +kernel
theorem dX6_begin_11 : decode cX6_begin 11 = .ok (.iconst 0, 1) := by decide +kernel
theorem dX6_begin_12 : decode cX6_begin 12 = .ok (.putfield 25, 3) := by decide +kernel
theorem dX6_begin_15 : decode cX6_begin 15 = .ok (.aload_n 0, 1) := by decide +kernel
theorem dX6_begin_16 : decode cX6_begin 16 = .ok (.iconst 0, 1) := by decide +kernel
theorem dX6_begin_17 : decode cX6_begin 17 = .ok (.putfield 28, 3) := by decide +kernel
theorem dX6_begin_20 : decode cX6_begin 20 = .ok (.aload_n 0, 1) := by decide +kernel
theorem dX6_begin_21 : decode cX6_begin 21 = .ok (.invokevirtual 31, 3) := by decide +kernel
theorem dX6_begin_24 : decode cX6_begin 24 = .ok (.return_, 1) := by decide +kernel
set_option maxRecDepth 20000 in
theorem ggX6_begin_X6_advance : GoodIn wsX6_begin wsX6_advance := goodIn_r _ [9, 10, 1, 11, 12, 13, 14, 2, 15, 16, 17, 18, 19, 20, 21, 8, 22, 3, 23, 24, 25, 26, 27, 28, 29, 30, 31, 32, 33, 34, 35, 36, 37, 38, 39, 40, 41] (by decide +kernel) (by decide +kernel)
set_option maxRecDepth 20000 in
theorem gX6_begin_X6_advance : GoodIn wsX6_begin (wsV RX6 31 RX6 yX6_advance wsX6_advance) := goodIn_app (goodIn_of _ (by decide +kernel)) ggX6_begin_X6_advance
set_option maxHeartbeats 4000000 in
set_option maxRecDepth 100000 in
theorem c_begin_900 (l : Launch) (D : va_G) (ca : Nat → ClassId) (sz : Nat) (h0 : Nat) (r_bytes : Nat) (r_faultKind : Int32) (r_faultAt : Int32) (r_letters : Int64) (r_mostBytes : Int32) (r_behind : Int32) (r_at : Int32) (r_kind : Int32) (r_number : Int32)  : oMet l yX6_begin wsX6_begin ({ frames := 2, cells := 0, slots := 0, locals := 41 } : Room) [.ref h0, .int 900] D ca sz [(h0, .inr (6, [.ref r_bytes, .int 0, .int r_faultKind, .int r_faultAt, .long r_letters, .int r_mostBytes, .int r_behind, .int r_at, .int r_kind, .int r_number]))] (oQv D (fun (u : Unit) => True) (fun (u : Unit) => [(h0, .inr (6, [.ref r_bytes, .int 0, .int 0, .int 0, .long 0, .int 900, .int 0, .int 0, .int 1, .int r_number]))])) 0 0 := by
  refine oM (cc := cX6_begin) (maxL := 2) (ret := none) (by decide) rfl (Nat.le_of_ble_eq_true rfl) [(0, .ref h0), (1, .int 900)] rfl ?_
  intro p e s m below meth c A H locs ls hx hb hr hml hts hown hlocks hin hK hP hD hA hS hl
  have hown : s.vm.findClass RX6 = some m.cls := hown
  have k1 := hts (.fieldLink RX6 19 "LidCourt$Reader" "mostBytes" "I") (by decide +kernel)
  have k2 : ∀ w ∈ wsX60, w ∈ wsX6_begin := by decide +kernel
  have k3 := hts (.fieldLink RX6 22 "LidCourt$Reader" "behind" "I") (by decide +kernel)
  have k4 := hts (.fieldLink RX6 25 "LidCourt$Reader" "faultKind" "I") (by decide +kernel)
  have k5 := hts (.fieldLink RX6 28 "LidCourt$Reader" "faultAt" "I") (by decide +kernel)
  refine lv_aload_n hx hb dX6_begin_0 rfl (lv_at hl 0 rfl) ?_
  refine lv_iload_n hx hb dX6_begin_1 rfl (lv_at hl 1 rfl) ?_
  refine va_put (D := D) (ci := 6) (v := .int 900) (ty := .int) (C := RX6) (T := TX6) (N := 10) hx hb hts k2 tyX6 tyX6_ok nmX6 hown hK.1 hP hD hS 0 rfl rfl 5 (by decide) k1 (fun _ h9 => h9) rfl (by decide +kernel) rfl rfl (Nat.le_of_ble_eq_true rfl) dX6_begin_2 (fun H locs hP hD hS => ?_)
  have hP : va_P D vwCl [(h0, .inr (6, [.ref r_bytes, .int 0, .int r_faultKind, .int r_faultAt, .long r_letters, .int 900, .int r_behind, .int r_at, .int r_kind, .int r_number]))] H := hP
  have hD : va_D A [(h0, .inr (6, [.ref r_bytes, .int 0, .int r_faultKind, .int r_faultAt, .long r_letters, .int 900, .int r_behind, .int r_at, .int r_kind, .int r_number]))] := hD
  refine lv_aload_n hx hb dX6_begin_5 rfl (lv_at hl 0 rfl) ?_
  refine lv_iconst (v := 0) hx hb dX6_begin_6 (by decide) ?_
  refine va_put (D := D) (ci := 6) (v := .int 0) (ty := .int) (C := RX6) (T := TX6) (N := 10) hx hb hts k2 tyX6 tyX6_ok nmX6 hown hK.1 hP hD hS 0 rfl rfl 6 (by decide) k3 (fun _ h9 => h9) rfl (by decide +kernel) rfl rfl (Nat.le_of_ble_eq_true rfl) dX6_begin_7 (fun H locs hP hD hS => ?_)
  have hP : va_P D vwCl [(h0, .inr (6, [.ref r_bytes, .int 0, .int r_faultKind, .int r_faultAt, .long r_letters, .int 900, .int 0, .int r_at, .int r_kind, .int r_number]))] H := hP
  have hD : va_D A [(h0, .inr (6, [.ref r_bytes, .int 0, .int r_faultKind, .int r_faultAt, .long r_letters, .int 900, .int 0, .int r_at, .int r_kind, .int r_number]))] := hD
  refine lv_aload_n hx hb dX6_begin_10 rfl (lv_at hl 0 rfl) ?_
  refine lv_iconst (v := 0) hx hb dX6_begin_11 (by decide) ?_
  refine va_put (D := D) (ci := 6) (v := .int 0) (ty := .int) (C := RX6) (T := TX6) (N := 10) hx hb hts k2 tyX6 tyX6_ok nmX6 hown hK.1 hP hD hS 0 rfl rfl 2 (by decide) k4 (fun _ h9 => h9) rfl (by decide +kernel) rfl rfl (Nat.le_of_ble_eq_true rfl) dX6_begin_12 (fun H locs hP hD hS => ?_)
  have hP : va_P D vwCl [(h0, .inr (6, [.ref r_bytes, .int 0, .int 0, .int r_faultAt, .long r_letters, .int 900, .int 0, .int r_at, .int r_kind, .int r_number]))] H := hP
  have hD : va_D A [(h0, .inr (6, [.ref r_bytes, .int 0, .int 0, .int r_faultAt, .long r_letters, .int 900, .int 0, .int r_at, .int r_kind, .int r_number]))] := hD
  refine lv_aload_n hx hb dX6_begin_15 rfl (lv_at hl 0 rfl) ?_
  refine lv_iconst (v := 0) hx hb dX6_begin_16 (by decide) ?_
  refine va_put (D := D) (ci := 6) (v := .int 0) (ty := .int) (C := RX6) (T := TX6) (N := 10) hx hb hts k2 tyX6 tyX6_ok nmX6 hown hK.1 hP hD hS 0 rfl rfl 3 (by decide) k5 (fun _ h9 => h9) rfl (by decide +kernel) rfl rfl (Nat.le_of_ble_eq_true rfl) dX6_begin_17 (fun H locs hP hD hS => ?_)
  have hP : va_P D vwCl [(h0, .inr (6, [.ref r_bytes, .int 0, .int 0, .int 0, .long r_letters, .int 900, .int 0, .int r_at, .int r_kind, .int r_number]))] H := hP
  have hD : va_D A [(h0, .inr (6, [.ref r_bytes, .int 0, .int 0, .int 0, .long r_letters, .int 900, .int 0, .int r_at, .int r_kind, .int r_number]))] := hD
  refine lv_aload_n hx hb dX6_begin_20 rfl (lv_at hl 0 rfl) ?_
  refine oC_v (Wc := [(h0, .inr (6, [.ref r_bytes, .int 0, .int 0, .int 0, .long r_letters, .int 900, .int 0, .int r_at, .int r_kind, .int r_number]))]) (Wr := []) (va_runV (As := []) (rest := []) ⟨hx, hb, hml, hown, hts⟩ (c_advance_900 l D ca H.size h0 r_bytes 0 r_letters r_at r_kind r_number) (cwV 0 hts gX6_begin_X6_advance rfl rfl rfl (by decide +kernel) ⟨Nat.le_of_ble_eq_true rfl, Nat.le_of_ble_eq_true rfl⟩) (oPV (C := RX6) hK hP hD [0] rfl (by decide) 0 rfl (ci := 6) rfl rfl) rfl rfl hl.1 rfl (lv_room (Nat.le_of_ble_eq_true rfl)) dX6_begin_21 ⟨Nat.le_of_ble_eq_true rfl, Nat.le_of_ble_eq_true rfl⟩) hP hD hS hA [0] [] rfl rfl (by decide) (by decide) (fun u H locs w_2 hP hD hS => ?_)
  obtain ⟨⟩ := u
  have hP : va_P D vwCl [(h0, .inr (6, [.ref r_bytes, .int 0, .int 0, .int 0, .long 0, .int 900, .int 0, .int 0, .int 1, .int r_number]))] H := hP
  have hD : va_D A [(h0, .inr (6, [.ref r_bytes, .int 0, .int 0, .int 0, .long 0, .int 900, .int 0, .int 0, .int 1, .int r_number]))] := hD
  exact oE_v hx hb hr hlocks hP hD hS () [0] rfl (by decide) trivial (Nat.le_of_ble_eq_true rfl) (Nat.le_of_ble_eq_true rfl) dX6_begin_24
set_option maxHeartbeats 4000000 in
set_option maxRecDepth 100000 in
theorem c_advance_400 (l : Launch) (D : va_G) (ca : Nat → ClassId) (sz : Nat) (h0 : Nat) (r_bytes : Nat) (r_faultAt : Int32) (r_letters : Int64) (r_at : Int32) (r_kind : Int32) (r_number : Int32)  : oMet l yX6_advance wsX6_advance ({ frames := 1, cells := 0, slots := 0, locals := 20 } : Room) [.ref h0] D ca sz [(h0, .inr (6, [.ref r_bytes, .int 0, .int 0, .int r_faultAt, .long r_letters, .int 400, .int 0, .int r_at, .int r_kind, .int r_number]))] (oQv D (fun (u : Unit) => True) (fun (u : Unit) => [(h0, .inr (6, [.ref r_bytes, .int 0, .int 0, .int r_faultAt, .long 0, .int 400, .int 0, .int 0, .int 1, .int r_number]))])) 0 0 := by
  refine oM (cc := cX6_advance) (maxL := 2) (ret := none) (by decide) rfl (Nat.le_of_ble_eq_true rfl) [(0, .ref h0)] rfl ?_
  intro p e s m below meth c A H locs ls hx hb hr hml hts hown hlocks hin hK hP hD hA hS hl
  have hown : s.vm.findClass RX6 = some m.cls := hown
  have k1 := hts (.fieldLink RX6 15 "LidCourt$Reader" "length" "I") (by decide +kernel)
  have k2 : ∀ w ∈ wsX60, w ∈ wsX6_advance := by decide +kernel
  have k3 := hts (.fieldLink RX6 19 "LidCourt$Reader" "mostBytes" "I") (by decide +kernel)
  have k4 := hts (.methodLink RX6 38 Lib.Math.min.name) (by decide +kernel)
  have k5 := hts (.static Lib.Math.min.name) (by decide +kernel)
  have k6 := hts (.initialized "java/lang/Math") (by decide +kernel)
  have k7 := hts (.code Lib.Math.min.name Lib.Math.min.code 2 (some .int)) (by decide +kernel)
  have k8 := hts (.fieldLink RX6 22 "LidCourt$Reader" "behind" "I") (by decide +kernel)
  have k9 := hts (.fieldLink RX6 44 "LidCourt$Reader" "letters" "J") (by decide +kernel)
  have k10 := hts (.fieldLink RX6 48 "LidCourt$Reader" "at" "I") (by decide +kernel)
  have k11 := hts (.fieldLink RX6 51 "LidCourt$Reader" "kind" "I") (by decide +kernel)
  refine lv_aload_n hx hb dX6_advance_0 rfl (lv_at hl 0 rfl) ?_
  refine oC_i (Wc := [(h0, .inr (6, [.ref r_bytes, .int 0, .int 0, .int r_faultAt, .long r_letters, .int 400, .int 0, .int r_at, .int r_kind, .int r_number]))]) (Wr := []) (va_runV (As := []) (rest := []) ⟨hx, hb, hml, hown, hts⟩ (c_isBroken l D ca H.size h0 r_bytes 0 r_faultAt r_letters 400 0 r_at r_kind r_number) (cwV 0 hts gX6_advance_X6_isBroken rfl rfl rfl (by decide +kernel) ⟨Nat.le_of_ble_eq_true rfl, Nat.le_of_ble_eq_true rfl⟩) (oPV (C := RX6) hK hP hD [0] rfl (by decide) 0 rfl (ci := 6) rfl rfl) rfl rfl hl.1 rfl (lv_room (Nat.le_of_ble_eq_true rfl)) dX6_advance_1 ⟨Nat.le_of_ble_eq_true rfl, Nat.le_of_ble_eq_true rfl⟩) hP hD hS hA [0] [] rfl rfl (by decide) (by decide) (fun r_1 u H locs w_2 hP hD hS => ?_)
  obtain ⟨⟩ := u
  try dsimp only at w_2
  subst w_2
  have hP : va_P D vwCl [(h0, .inr (6, [.ref r_bytes, .int 0, .int 0, .int r_faultAt, .long r_letters, .int 400, .int 0, .int r_at, .int r_kind, .int r_number]))] H := hP
  have hD : va_D A [(h0, .inr (6, [.ref r_bytes, .int 0, .int 0, .int r_faultAt, .long r_letters, .int 400, .int 0, .int r_at, .int r_kind, .int r_number]))] := hD
  refine lv_if_eq (tgt := 8) hx hb dX6_advance_4 (by decide) (fun _ => ?_) (fun c => absurd (by decide) c)
  refine lv_aload_n hx hb dX6_advance_8 rfl (lv_at hl 0 rfl) ?_
  refine va_get (D := D) (ci := 6) (v := .int 0) (C := RX6) (T := TX6) (N := 10) hx hb hts k2 hown hK.1 hP 0 rfl rfl 1 (by decide) k1 (fun _ h9 => h9) rfl dX6_advance_9 ?_
  refine lv_aload_n hx hb dX6_advance_12 rfl (lv_at hl 0 rfl) ?_
  refine va_get (D := D) (ci := 6) (v := .int 400) (C := RX6) (T := TX6) (N := 10) hx hb hts k2 hown hK.1 hP 0 rfl rfl 5 (by decide) k3 (fun _ h9 => h9) rfl dX6_advance_13 ?_
  refine va_mmin hx hb (by rw [hml]; exact hl.1.symm) hown k4 k5 k6 k7 (Nat.le_of_ble_eq_true rfl) (Nat.le_of_ble_eq_true rfl) (Nat.le_of_ble_eq_true rfl) (Nat.le_of_ble_eq_true rfl) dX6_advance_16 ?_
  refine oti 0 (by decide) ?_
  refine lv_istore_n (lv' := [(1, .int 0), (0, .ref h0)]) hx hb dX6_advance_19 rfl hl (by decide) rfl (fun ls hl => ?_)
  refine lv_aload_n hx hb dX6_advance_20 rfl (lv_at hl 1 rfl) ?_
  refine va_get (D := D) (ci := 6) (v := .int 0) (C := RX6) (T := TX6) (N := 10) hx hb hts k2 hown hK.1 hP 0 rfl rfl 6 (by decide) k8 (fun _ h9 => h9) rfl dX6_advance_21 ?_
  refine lv_iload_n hx hb dX6_advance_24 rfl (lv_at hl 0 rfl) ?_
  refine lv_icmp_ge (tgt := 69) hx hb dX6_advance_25 (by decide) (fun _ => ?_) (fun c => absurd (by decide) c)
  refine lv_aload_n hx hb dX6_advance_69 rfl (lv_at hl 1 rfl) ?_
  refine lv_lconst (v := 0) hx hb dX6_advance_70 (by decide) ?_
  refine va_put (D := D) (ci := 6) (v := .long 0) (ty := .long) (C := RX6) (T := TX6) (N := 10) hx hb hts k2 tyX6 tyX6_ok nmX6 hown hK.1 hP hD hS 0 rfl rfl 4 (by decide) k9 (fun _ h9 => h9) rfl (by decide +kernel) rfl rfl (Nat.le_of_ble_eq_true rfl) dX6_advance_71 (fun H locs hP hD hS => ?_)
  have hP : va_P D vwCl [(h0, .inr (6, [.ref r_bytes, .int 0, .int 0, .int r_faultAt, .long 0, .int 400, .int 0, .int r_at, .int r_kind, .int r_number]))] H := hP
  have hD : va_D A [(h0, .inr (6, [.ref r_bytes, .int 0, .int 0, .int r_faultAt, .long 0, .int 400, .int 0, .int r_at, .int r_kind, .int r_number]))] := hD
  refine lv_aload_n hx hb dX6_advance_74 rfl (lv_at hl 1 rfl) ?_
  refine va_get (D := D) (ci := 6) (v := .int 0) (C := RX6) (T := TX6) (N := 10) hx hb hts k2 hown hK.1 hP 0 rfl rfl 6 (by decide) k8 (fun _ h9 => h9) rfl dX6_advance_75 ?_
  refine lv_iload_n hx hb dX6_advance_78 rfl (lv_at hl 0 rfl) ?_
  refine lv_icmp_lt (tgt := 108) hx hb dX6_advance_79 (by decide) (fun c => absurd c (by decide)) (fun _ => ?_)
  refine lv_aload_n hx hb dX6_advance_82 rfl (lv_at hl 1 rfl) ?_
  refine lv_iload_n hx hb dX6_advance_83 rfl (lv_at hl 0 rfl) ?_
  refine va_put (D := D) (ci := 6) (v := .int 0) (ty := .int) (C := RX6) (T := TX6) (N := 10) hx hb hts k2 tyX6 tyX6_ok nmX6 hown hK.1 hP hD hS 0 rfl rfl 7 (by decide) k10 (fun _ h9 => h9) rfl (by decide +kernel) rfl rfl (Nat.le_of_ble_eq_true rfl) dX6_advance_84 (fun H locs hP hD hS => ?_)
  have hP : va_P D vwCl [(h0, .inr (6, [.ref r_bytes, .int 0, .int 0, .int r_faultAt, .long 0, .int 400, .int 0, .int 0, .int r_kind, .int r_number]))] H := hP
  have hD : va_D A [(h0, .inr (6, [.ref r_bytes, .int 0, .int 0, .int r_faultAt, .long 0, .int 400, .int 0, .int 0, .int r_kind, .int r_number]))] := hD
  refine lv_aload_n hx hb dX6_advance_87 rfl (lv_at hl 1 rfl) ?_
  refine lv_aload_n hx hb dX6_advance_88 rfl (lv_at hl 1 rfl) ?_
  refine va_get (D := D) (ci := 6) (v := .int 0) (C := RX6) (T := TX6) (N := 10) hx hb hts k2 hown hK.1 hP 0 rfl rfl 1 (by decide) k1 (fun _ h9 => h9) rfl dX6_advance_89 ?_
  refine lv_aload_n hx hb dX6_advance_92 rfl (lv_at hl 1 rfl) ?_
  refine va_get (D := D) (ci := 6) (v := .int 400) (C := RX6) (T := TX6) (N := 10) hx hb hts k2 hown hK.1 hP 0 rfl rfl 5 (by decide) k3 (fun _ h9 => h9) rfl dX6_advance_93 ?_
  refine lv_icmp_le (tgt := 103) hx hb dX6_advance_96 (by decide) (fun _ => ?_) (fun c => absurd (by decide) c)
  refine lv_iconst (v := 1) hx hb dX6_advance_103 (by decide) ?_
  refine va_put (D := D) (ci := 6) (v := .int 1) (ty := .int) (C := RX6) (T := TX6) (N := 10) hx hb hts k2 tyX6 tyX6_ok nmX6 hown hK.1 hP hD hS 0 rfl rfl 8 (by decide) k11 (fun _ h9 => h9) rfl (by decide +kernel) rfl rfl (Nat.le_of_ble_eq_true rfl) dX6_advance_104 (fun H locs hP hD hS => ?_)
  have hP : va_P D vwCl [(h0, .inr (6, [.ref r_bytes, .int 0, .int 0, .int r_faultAt, .long 0, .int 400, .int 0, .int 0, .int 1, .int r_number]))] H := hP
  have hD : va_D A [(h0, .inr (6, [.ref r_bytes, .int 0, .int 0, .int r_faultAt, .long 0, .int 400, .int 0, .int 0, .int 1, .int r_number]))] := hD
  exact oE_v hx hb hr hlocks hP hD hS () [0] rfl (by decide) trivial (Nat.le_of_ble_eq_true rfl) (Nat.le_of_ble_eq_true rfl) dX6_advance_107
set_option maxHeartbeats 4000000 in
set_option maxRecDepth 100000 in
theorem c_begin_400 (l : Launch) (D : va_G) (ca : Nat → ClassId) (sz : Nat) (h0 : Nat) (r_bytes : Nat) (r_faultKind : Int32) (r_faultAt : Int32) (r_letters : Int64) (r_mostBytes : Int32) (r_behind : Int32) (r_at : Int32) (r_kind : Int32) (r_number : Int32)  : oMet l yX6_begin wsX6_begin ({ frames := 2, cells := 0, slots := 0, locals := 41 } : Room) [.ref h0, .int 400] D ca sz [(h0, .inr (6, [.ref r_bytes, .int 0, .int r_faultKind, .int r_faultAt, .long r_letters, .int r_mostBytes, .int r_behind, .int r_at, .int r_kind, .int r_number]))] (oQv D (fun (u : Unit) => True) (fun (u : Unit) => [(h0, .inr (6, [.ref r_bytes, .int 0, .int 0, .int 0, .long 0, .int 400, .int 0, .int 0, .int 1, .int r_number]))])) 0 0 := by
  refine oM (cc := cX6_begin) (maxL := 2) (ret := none) (by decide) rfl (Nat.le_of_ble_eq_true rfl) [(0, .ref h0), (1, .int 400)] rfl ?_
  intro p e s m below meth c A H locs ls hx hb hr hml hts hown hlocks hin hK hP hD hA hS hl
  have hown : s.vm.findClass RX6 = some m.cls := hown
  have k1 := hts (.fieldLink RX6 19 "LidCourt$Reader" "mostBytes" "I") (by decide +kernel)
  have k2 : ∀ w ∈ wsX60, w ∈ wsX6_begin := by decide +kernel
  have k3 := hts (.fieldLink RX6 22 "LidCourt$Reader" "behind" "I") (by decide +kernel)
  have k4 := hts (.fieldLink RX6 25 "LidCourt$Reader" "faultKind" "I") (by decide +kernel)
  have k5 := hts (.fieldLink RX6 28 "LidCourt$Reader" "faultAt" "I") (by decide +kernel)
  refine lv_aload_n hx hb dX6_begin_0 rfl (lv_at hl 0 rfl) ?_
  refine lv_iload_n hx hb dX6_begin_1 rfl (lv_at hl 1 rfl) ?_
  refine va_put (D := D) (ci := 6) (v := .int 400) (ty := .int) (C := RX6) (T := TX6) (N := 10) hx hb hts k2 tyX6 tyX6_ok nmX6 hown hK.1 hP hD hS 0 rfl rfl 5 (by decide) k1 (fun _ h9 => h9) rfl (by decide +kernel) rfl rfl (Nat.le_of_ble_eq_true rfl) dX6_begin_2 (fun H locs hP hD hS => ?_)
  have hP : va_P D vwCl [(h0, .inr (6, [.ref r_bytes, .int 0, .int r_faultKind, .int r_faultAt, .long r_letters, .int 400, .int r_behind, .int r_at, .int r_kind, .int r_number]))] H := hP
  have hD : va_D A [(h0, .inr (6, [.ref r_bytes, .int 0, .int r_faultKind, .int r_faultAt, .long r_letters, .int 400, .int r_behind, .int r_at, .int r_kind, .int r_number]))] := hD
  refine lv_aload_n hx hb dX6_begin_5 rfl (lv_at hl 0 rfl) ?_
  refine lv_iconst (v := 0) hx hb dX6_begin_6 (by decide) ?_
  refine va_put (D := D) (ci := 6) (v := .int 0) (ty := .int) (C := RX6) (T := TX6) (N := 10) hx hb hts k2 tyX6 tyX6_ok nmX6 hown hK.1 hP hD hS 0 rfl rfl 6 (by decide) k3 (fun _ h9 => h9) rfl (by decide +kernel) rfl rfl (Nat.le_of_ble_eq_true rfl) dX6_begin_7 (fun H locs hP hD hS => ?_)
  have hP : va_P D vwCl [(h0, .inr (6, [.ref r_bytes, .int 0, .int r_faultKind, .int r_faultAt, .long r_letters, .int 400, .int 0, .int r_at, .int r_kind, .int r_number]))] H := hP
  have hD : va_D A [(h0, .inr (6, [.ref r_bytes, .int 0, .int r_faultKind, .int r_faultAt, .long r_letters, .int 400, .int 0, .int r_at, .int r_kind, .int r_number]))] := hD
  refine lv_aload_n hx hb dX6_begin_10 rfl (lv_at hl 0 rfl) ?_
  refine lv_iconst (v := 0) hx hb dX6_begin_11 (by decide) ?_
  refine va_put (D := D) (ci := 6) (v := .int 0) (ty := .int) (C := RX6) (T := TX6) (N := 10) hx hb hts k2 tyX6 tyX6_ok nmX6 hown hK.1 hP hD hS 0 rfl rfl 2 (by decide) k4 (fun _ h9 => h9) rfl (by decide +kernel) rfl rfl (Nat.le_of_ble_eq_true rfl) dX6_begin_12 (fun H locs hP hD hS => ?_)
  have hP : va_P D vwCl [(h0, .inr (6, [.ref r_bytes, .int 0, .int 0, .int r_faultAt, .long r_letters, .int 400, .int 0, .int r_at, .int r_kind, .int r_number]))] H := hP
  have hD : va_D A [(h0, .inr (6, [.ref r_bytes, .int 0, .int 0, .int r_faultAt, .long r_letters, .int 400, .int 0, .int r_at, .int r_kind, .int r_number]))] := hD
  refine lv_aload_n hx hb dX6_begin_15 rfl (lv_at hl 0 rfl) ?_
  refine lv_iconst (v := 0) hx hb dX6_begin_16 (by decide) ?_
  refine va_put (D := D) (ci := 6) (v := .int 0) (ty := .int) (C := RX6) (T := TX6) (N := 10) hx hb hts k2 tyX6 tyX6_ok nmX6 hown hK.1 hP hD hS 0 rfl rfl 3 (by decide) k5 (fun _ h9 => h9) rfl (by decide +kernel) rfl rfl (Nat.le_of_ble_eq_true rfl) dX6_begin_17 (fun H locs hP hD hS => ?_)
  have hP : va_P D vwCl [(h0, .inr (6, [.ref r_bytes, .int 0, .int 0, .int 0, .long r_letters, .int 400, .int 0, .int r_at, .int r_kind, .int r_number]))] H := hP
  have hD : va_D A [(h0, .inr (6, [.ref r_bytes, .int 0, .int 0, .int 0, .long r_letters, .int 400, .int 0, .int r_at, .int r_kind, .int r_number]))] := hD
  refine lv_aload_n hx hb dX6_begin_20 rfl (lv_at hl 0 rfl) ?_
  refine oC_v (Wc := [(h0, .inr (6, [.ref r_bytes, .int 0, .int 0, .int 0, .long r_letters, .int 400, .int 0, .int r_at, .int r_kind, .int r_number]))]) (Wr := []) (va_runV (As := []) (rest := []) ⟨hx, hb, hml, hown, hts⟩ (c_advance_400 l D ca H.size h0 r_bytes 0 r_letters r_at r_kind r_number) (cwV 0 hts gX6_begin_X6_advance rfl rfl rfl (by decide +kernel) ⟨Nat.le_of_ble_eq_true rfl, Nat.le_of_ble_eq_true rfl⟩) (oPV (C := RX6) hK hP hD [0] rfl (by decide) 0 rfl (ci := 6) rfl rfl) rfl rfl hl.1 rfl (lv_room (Nat.le_of_ble_eq_true rfl)) dX6_begin_21 ⟨Nat.le_of_ble_eq_true rfl, Nat.le_of_ble_eq_true rfl⟩) hP hD hS hA [0] [] rfl rfl (by decide) (by decide) (fun u H locs w_2 hP hD hS => ?_)
  obtain ⟨⟩ := u
  have hP : va_P D vwCl [(h0, .inr (6, [.ref r_bytes, .int 0, .int 0, .int 0, .long 0, .int 400, .int 0, .int 0, .int 1, .int r_number]))] H := hP
  have hD : va_D A [(h0, .inr (6, [.ref r_bytes, .int 0, .int 0, .int 0, .long 0, .int 400, .int 0, .int 0, .int 1, .int r_number]))] := hD
  exact oE_v hx hb hr hlocks hP hD hS () [0] rfl (by decide) trivial (Nat.le_of_ble_eq_true rfl) (Nat.le_of_ble_eq_true rfl) dX6_begin_24
set_option maxHeartbeats 4000000 in
set_option maxRecDepth 100000 in
theorem c_advance_200 (l : Launch) (D : va_G) (ca : Nat → ClassId) (sz : Nat) (h0 : Nat) (r_bytes : Nat) (r_faultAt : Int32) (r_letters : Int64) (r_at : Int32) (r_kind : Int32) (r_number : Int32)  : oMet l yX6_advance wsX6_advance ({ frames := 1, cells := 0, slots := 0, locals := 20 } : Room) [.ref h0] D ca sz [(h0, .inr (6, [.ref r_bytes, .int 0, .int 0, .int r_faultAt, .long r_letters, .int 200, .int 0, .int r_at, .int r_kind, .int r_number]))] (oQv D (fun (u : Unit) => True) (fun (u : Unit) => [(h0, .inr (6, [.ref r_bytes, .int 0, .int 0, .int r_faultAt, .long 0, .int 200, .int 0, .int 0, .int 1, .int r_number]))])) 0 0 := by
  refine oM (cc := cX6_advance) (maxL := 2) (ret := none) (by decide) rfl (Nat.le_of_ble_eq_true rfl) [(0, .ref h0)] rfl ?_
  intro p e s m below meth c A H locs ls hx hb hr hml hts hown hlocks hin hK hP hD hA hS hl
  have hown : s.vm.findClass RX6 = some m.cls := hown
  have k1 := hts (.fieldLink RX6 15 "LidCourt$Reader" "length" "I") (by decide +kernel)
  have k2 : ∀ w ∈ wsX60, w ∈ wsX6_advance := by decide +kernel
  have k3 := hts (.fieldLink RX6 19 "LidCourt$Reader" "mostBytes" "I") (by decide +kernel)
  have k4 := hts (.methodLink RX6 38 Lib.Math.min.name) (by decide +kernel)
  have k5 := hts (.static Lib.Math.min.name) (by decide +kernel)
  have k6 := hts (.initialized "java/lang/Math") (by decide +kernel)
  have k7 := hts (.code Lib.Math.min.name Lib.Math.min.code 2 (some .int)) (by decide +kernel)
  have k8 := hts (.fieldLink RX6 22 "LidCourt$Reader" "behind" "I") (by decide +kernel)
  have k9 := hts (.fieldLink RX6 44 "LidCourt$Reader" "letters" "J") (by decide +kernel)
  have k10 := hts (.fieldLink RX6 48 "LidCourt$Reader" "at" "I") (by decide +kernel)
  have k11 := hts (.fieldLink RX6 51 "LidCourt$Reader" "kind" "I") (by decide +kernel)
  refine lv_aload_n hx hb dX6_advance_0 rfl (lv_at hl 0 rfl) ?_
  refine oC_i (Wc := [(h0, .inr (6, [.ref r_bytes, .int 0, .int 0, .int r_faultAt, .long r_letters, .int 200, .int 0, .int r_at, .int r_kind, .int r_number]))]) (Wr := []) (va_runV (As := []) (rest := []) ⟨hx, hb, hml, hown, hts⟩ (c_isBroken l D ca H.size h0 r_bytes 0 r_faultAt r_letters 200 0 r_at r_kind r_number) (cwV 0 hts gX6_advance_X6_isBroken rfl rfl rfl (by decide +kernel) ⟨Nat.le_of_ble_eq_true rfl, Nat.le_of_ble_eq_true rfl⟩) (oPV (C := RX6) hK hP hD [0] rfl (by decide) 0 rfl (ci := 6) rfl rfl) rfl rfl hl.1 rfl (lv_room (Nat.le_of_ble_eq_true rfl)) dX6_advance_1 ⟨Nat.le_of_ble_eq_true rfl, Nat.le_of_ble_eq_true rfl⟩) hP hD hS hA [0] [] rfl rfl (by decide) (by decide) (fun r_1 u H locs w_2 hP hD hS => ?_)
  obtain ⟨⟩ := u
  try dsimp only at w_2
  subst w_2
  have hP : va_P D vwCl [(h0, .inr (6, [.ref r_bytes, .int 0, .int 0, .int r_faultAt, .long r_letters, .int 200, .int 0, .int r_at, .int r_kind, .int r_number]))] H := hP
  have hD : va_D A [(h0, .inr (6, [.ref r_bytes, .int 0, .int 0, .int r_faultAt, .long r_letters, .int 200, .int 0, .int r_at, .int r_kind, .int r_number]))] := hD
  refine lv_if_eq (tgt := 8) hx hb dX6_advance_4 (by decide) (fun _ => ?_) (fun c => absurd (by decide) c)
  refine lv_aload_n hx hb dX6_advance_8 rfl (lv_at hl 0 rfl) ?_
  refine va_get (D := D) (ci := 6) (v := .int 0) (C := RX6) (T := TX6) (N := 10) hx hb hts k2 hown hK.1 hP 0 rfl rfl 1 (by decide) k1 (fun _ h9 => h9) rfl dX6_advance_9 ?_
  refine lv_aload_n hx hb dX6_advance_12 rfl (lv_at hl 0 rfl) ?_
  refine va_get (D := D) (ci := 6) (v := .int 200) (C := RX6) (T := TX6) (N := 10) hx hb hts k2 hown hK.1 hP 0 rfl rfl 5 (by decide) k3 (fun _ h9 => h9) rfl dX6_advance_13 ?_
  refine va_mmin hx hb (by rw [hml]; exact hl.1.symm) hown k4 k5 k6 k7 (Nat.le_of_ble_eq_true rfl) (Nat.le_of_ble_eq_true rfl) (Nat.le_of_ble_eq_true rfl) (Nat.le_of_ble_eq_true rfl) dX6_advance_16 ?_
  refine oti 0 (by decide) ?_
  refine lv_istore_n (lv' := [(1, .int 0), (0, .ref h0)]) hx hb dX6_advance_19 rfl hl (by decide) rfl (fun ls hl => ?_)
  refine lv_aload_n hx hb dX6_advance_20 rfl (lv_at hl 1 rfl) ?_
  refine va_get (D := D) (ci := 6) (v := .int 0) (C := RX6) (T := TX6) (N := 10) hx hb hts k2 hown hK.1 hP 0 rfl rfl 6 (by decide) k8 (fun _ h9 => h9) rfl dX6_advance_21 ?_
  refine lv_iload_n hx hb dX6_advance_24 rfl (lv_at hl 0 rfl) ?_
  refine lv_icmp_ge (tgt := 69) hx hb dX6_advance_25 (by decide) (fun _ => ?_) (fun c => absurd (by decide) c)
  refine lv_aload_n hx hb dX6_advance_69 rfl (lv_at hl 1 rfl) ?_
  refine lv_lconst (v := 0) hx hb dX6_advance_70 (by decide) ?_
  refine va_put (D := D) (ci := 6) (v := .long 0) (ty := .long) (C := RX6) (T := TX6) (N := 10) hx hb hts k2 tyX6 tyX6_ok nmX6 hown hK.1 hP hD hS 0 rfl rfl 4 (by decide) k9 (fun _ h9 => h9) rfl (by decide +kernel) rfl rfl (Nat.le_of_ble_eq_true rfl) dX6_advance_71 (fun H locs hP hD hS => ?_)
  have hP : va_P D vwCl [(h0, .inr (6, [.ref r_bytes, .int 0, .int 0, .int r_faultAt, .long 0, .int 200, .int 0, .int r_at, .int r_kind, .int r_number]))] H := hP
  have hD : va_D A [(h0, .inr (6, [.ref r_bytes, .int 0, .int 0, .int r_faultAt, .long 0, .int 200, .int 0, .int r_at, .int r_kind, .int r_number]))] := hD
  refine lv_aload_n hx hb dX6_advance_74 rfl (lv_at hl 1 rfl) ?_
  refine va_get (D := D) (ci := 6) (v := .int 0) (C := RX6) (T := TX6) (N := 10) hx hb hts k2 hown hK.1 hP 0 rfl rfl 6 (by decide) k8 (fun _ h9 => h9) rfl dX6_advance_75 ?_
  refine lv_iload_n hx hb dX6_advance_78 rfl (lv_at hl 0 rfl) ?_
  refine lv_icmp_lt (tgt := 108) hx hb dX6_advance_79 (by decide) (fun c => absurd c (by decide)) (fun _ => ?_)
  refine lv_aload_n hx hb dX6_advance_82 rfl (lv_at hl 1 rfl) ?_
  refine lv_iload_n hx hb dX6_advance_83 rfl (lv_at hl 0 rfl) ?_
  refine va_put (D := D) (ci := 6) (v := .int 0) (ty := .int) (C := RX6) (T := TX6) (N := 10) hx hb hts k2 tyX6 tyX6_ok nmX6 hown hK.1 hP hD hS 0 rfl rfl 7 (by decide) k10 (fun _ h9 => h9) rfl (by decide +kernel) rfl rfl (Nat.le_of_ble_eq_true rfl) dX6_advance_84 (fun H locs hP hD hS => ?_)
  have hP : va_P D vwCl [(h0, .inr (6, [.ref r_bytes, .int 0, .int 0, .int r_faultAt, .long 0, .int 200, .int 0, .int 0, .int r_kind, .int r_number]))] H := hP
  have hD : va_D A [(h0, .inr (6, [.ref r_bytes, .int 0, .int 0, .int r_faultAt, .long 0, .int 200, .int 0, .int 0, .int r_kind, .int r_number]))] := hD
  refine lv_aload_n hx hb dX6_advance_87 rfl (lv_at hl 1 rfl) ?_
  refine lv_aload_n hx hb dX6_advance_88 rfl (lv_at hl 1 rfl) ?_
  refine va_get (D := D) (ci := 6) (v := .int 0) (C := RX6) (T := TX6) (N := 10) hx hb hts k2 hown hK.1 hP 0 rfl rfl 1 (by decide) k1 (fun _ h9 => h9) rfl dX6_advance_89 ?_
  refine lv_aload_n hx hb dX6_advance_92 rfl (lv_at hl 1 rfl) ?_
  refine va_get (D := D) (ci := 6) (v := .int 200) (C := RX6) (T := TX6) (N := 10) hx hb hts k2 hown hK.1 hP 0 rfl rfl 5 (by decide) k3 (fun _ h9 => h9) rfl dX6_advance_93 ?_
  refine lv_icmp_le (tgt := 103) hx hb dX6_advance_96 (by decide) (fun _ => ?_) (fun c => absurd (by decide) c)
  refine lv_iconst (v := 1) hx hb dX6_advance_103 (by decide) ?_
  refine va_put (D := D) (ci := 6) (v := .int 1) (ty := .int) (C := RX6) (T := TX6) (N := 10) hx hb hts k2 tyX6 tyX6_ok nmX6 hown hK.1 hP hD hS 0 rfl rfl 8 (by decide) k11 (fun _ h9 => h9) rfl (by decide +kernel) rfl rfl (Nat.le_of_ble_eq_true rfl) dX6_advance_104 (fun H locs hP hD hS => ?_)
  have hP : va_P D vwCl [(h0, .inr (6, [.ref r_bytes, .int 0, .int 0, .int r_faultAt, .long 0, .int 200, .int 0, .int 0, .int 1, .int r_number]))] H := hP
  have hD : va_D A [(h0, .inr (6, [.ref r_bytes, .int 0, .int 0, .int r_faultAt, .long 0, .int 200, .int 0, .int 0, .int 1, .int r_number]))] := hD
  exact oE_v hx hb hr hlocks hP hD hS () [0] rfl (by decide) trivial (Nat.le_of_ble_eq_true rfl) (Nat.le_of_ble_eq_true rfl) dX6_advance_107
set_option maxHeartbeats 4000000 in
set_option maxRecDepth 100000 in
theorem c_begin_200 (l : Launch) (D : va_G) (ca : Nat → ClassId) (sz : Nat) (h0 : Nat) (r_bytes : Nat) (r_faultKind : Int32) (r_faultAt : Int32) (r_letters : Int64) (r_mostBytes : Int32) (r_behind : Int32) (r_at : Int32) (r_kind : Int32) (r_number : Int32)  : oMet l yX6_begin wsX6_begin ({ frames := 2, cells := 0, slots := 0, locals := 41 } : Room) [.ref h0, .int 200] D ca sz [(h0, .inr (6, [.ref r_bytes, .int 0, .int r_faultKind, .int r_faultAt, .long r_letters, .int r_mostBytes, .int r_behind, .int r_at, .int r_kind, .int r_number]))] (oQv D (fun (u : Unit) => True) (fun (u : Unit) => [(h0, .inr (6, [.ref r_bytes, .int 0, .int 0, .int 0, .long 0, .int 200, .int 0, .int 0, .int 1, .int r_number]))])) 0 0 := by
  refine oM (cc := cX6_begin) (maxL := 2) (ret := none) (by decide) rfl (Nat.le_of_ble_eq_true rfl) [(0, .ref h0), (1, .int 200)] rfl ?_
  intro p e s m below meth c A H locs ls hx hb hr hml hts hown hlocks hin hK hP hD hA hS hl
  have hown : s.vm.findClass RX6 = some m.cls := hown
  have k1 := hts (.fieldLink RX6 19 "LidCourt$Reader" "mostBytes" "I") (by decide +kernel)
  have k2 : ∀ w ∈ wsX60, w ∈ wsX6_begin := by decide +kernel
  have k3 := hts (.fieldLink RX6 22 "LidCourt$Reader" "behind" "I") (by decide +kernel)
  have k4 := hts (.fieldLink RX6 25 "LidCourt$Reader" "faultKind" "I") (by decide +kernel)
  have k5 := hts (.fieldLink RX6 28 "LidCourt$Reader" "faultAt" "I") (by decide +kernel)
  refine lv_aload_n hx hb dX6_begin_0 rfl (lv_at hl 0 rfl) ?_
  refine lv_iload_n hx hb dX6_begin_1 rfl (lv_at hl 1 rfl) ?_
  refine va_put (D := D) (ci := 6) (v := .int 200) (ty := .int) (C := RX6) (T := TX6) (N := 10) hx hb hts k2 tyX6 tyX6_ok nmX6 hown hK.1 hP hD hS 0 rfl rfl 5 (by decide) k1 (fun _ h9 => h9) rfl (by decide +kernel) rfl rfl (Nat.le_of_ble_eq_true rfl) dX6_begin_2 (fun H locs hP hD hS => ?_)
  have hP : va_P D vwCl [(h0, .inr (6, [.ref r_bytes, .int 0, .int r_faultKind, .int r_faultAt, .long r_letters, .int 200, .int r_behind, .int r_at, .int r_kind, .int r_number]))] H := hP
  have hD : va_D A [(h0, .inr (6, [.ref r_bytes, .int 0, .int r_faultKind, .int r_faultAt, .long r_letters, .int 200, .int r_behind, .int r_at, .int r_kind, .int r_number]))] := hD
  refine lv_aload_n hx hb dX6_begin_5 rfl (lv_at hl 0 rfl) ?_
  refine lv_iconst (v := 0) hx hb dX6_begin_6 (by decide) ?_
  refine va_put (D := D) (ci := 6) (v := .int 0) (ty := .int) (C := RX6) (T := TX6) (N := 10) hx hb hts k2 tyX6 tyX6_ok nmX6 hown hK.1 hP hD hS 0 rfl rfl 6 (by decide) k3 (fun _ h9 => h9) rfl (by decide +kernel) rfl rfl (Nat.le_of_ble_eq_true rfl) dX6_begin_7 (fun H locs hP hD hS => ?_)
  have hP : va_P D vwCl [(h0, .inr (6, [.ref r_bytes, .int 0, .int r_faultKind, .int r_faultAt, .long r_letters, .int 200, .int 0, .int r_at, .int r_kind, .int r_number]))] H := hP
  have hD : va_D A [(h0, .inr (6, [.ref r_bytes, .int 0, .int r_faultKind, .int r_faultAt, .long r_letters, .int 200, .int 0, .int r_at, .int r_kind, .int r_number]))] := hD
  refine lv_aload_n hx hb dX6_begin_10 rfl (lv_at hl 0 rfl) ?_
  refine lv_iconst (v := 0) hx hb dX6_begin_11 (by decide) ?_
  refine va_put (D := D) (ci := 6) (v := .int 0) (ty := .int) (C := RX6) (T := TX6) (N := 10) hx hb hts k2 tyX6 tyX6_ok nmX6 hown hK.1 hP hD hS 0 rfl rfl 2 (by decide) k4 (fun _ h9 => h9) rfl (by decide +kernel) rfl rfl (Nat.le_of_ble_eq_true rfl) dX6_begin_12 (fun H locs hP hD hS => ?_)
  have hP : va_P D vwCl [(h0, .inr (6, [.ref r_bytes, .int 0, .int 0, .int r_faultAt, .long r_letters, .int 200, .int 0, .int r_at, .int r_kind, .int r_number]))] H := hP
  have hD : va_D A [(h0, .inr (6, [.ref r_bytes, .int 0, .int 0, .int r_faultAt, .long r_letters, .int 200, .int 0, .int r_at, .int r_kind, .int r_number]))] := hD
  refine lv_aload_n hx hb dX6_begin_15 rfl (lv_at hl 0 rfl) ?_
  refine lv_iconst (v := 0) hx hb dX6_begin_16 (by decide) ?_
  refine va_put (D := D) (ci := 6) (v := .int 0) (ty := .int) (C := RX6) (T := TX6) (N := 10) hx hb hts k2 tyX6 tyX6_ok nmX6 hown hK.1 hP hD hS 0 rfl rfl 3 (by decide) k5 (fun _ h9 => h9) rfl (by decide +kernel) rfl rfl (Nat.le_of_ble_eq_true rfl) dX6_begin_17 (fun H locs hP hD hS => ?_)
  have hP : va_P D vwCl [(h0, .inr (6, [.ref r_bytes, .int 0, .int 0, .int 0, .long r_letters, .int 200, .int 0, .int r_at, .int r_kind, .int r_number]))] H := hP
  have hD : va_D A [(h0, .inr (6, [.ref r_bytes, .int 0, .int 0, .int 0, .long r_letters, .int 200, .int 0, .int r_at, .int r_kind, .int r_number]))] := hD
  refine lv_aload_n hx hb dX6_begin_20 rfl (lv_at hl 0 rfl) ?_
  refine oC_v (Wc := [(h0, .inr (6, [.ref r_bytes, .int 0, .int 0, .int 0, .long r_letters, .int 200, .int 0, .int r_at, .int r_kind, .int r_number]))]) (Wr := []) (va_runV (As := []) (rest := []) ⟨hx, hb, hml, hown, hts⟩ (c_advance_200 l D ca H.size h0 r_bytes 0 r_letters r_at r_kind r_number) (cwV 0 hts gX6_begin_X6_advance rfl rfl rfl (by decide +kernel) ⟨Nat.le_of_ble_eq_true rfl, Nat.le_of_ble_eq_true rfl⟩) (oPV (C := RX6) hK hP hD [0] rfl (by decide) 0 rfl (ci := 6) rfl rfl) rfl rfl hl.1 rfl (lv_room (Nat.le_of_ble_eq_true rfl)) dX6_begin_21 ⟨Nat.le_of_ble_eq_true rfl, Nat.le_of_ble_eq_true rfl⟩) hP hD hS hA [0] [] rfl rfl (by decide) (by decide) (fun u H locs w_2 hP hD hS => ?_)
  obtain ⟨⟩ := u
  have hP : va_P D vwCl [(h0, .inr (6, [.ref r_bytes, .int 0, .int 0, .int 0, .long 0, .int 200, .int 0, .int 0, .int 1, .int r_number]))] H := hP
  have hD : va_D A [(h0, .inr (6, [.ref r_bytes, .int 0, .int 0, .int 0, .long 0, .int 200, .int 0, .int 0, .int 1, .int r_number]))] := hD
  exact oE_v hx hb hr hlocks hP hD hS () [0] rfl (by decide) trivial (Nat.le_of_ble_eq_true rfl) (Nat.le_of_ble_eq_true rfl) dX6_begin_24