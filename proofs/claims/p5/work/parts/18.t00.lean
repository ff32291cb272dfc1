theorem dJ0_coder_7d493_0 : decode cJ0_coder_7d493 0 = .ok (.getstatic 38, 3) := by decide +kernel
theorem dJ0_coder_7d493_3 : decode cJ0_coder_7d493 3 = .ok (.ifCond .eq 10, 3) := by decide +kernel
theorem dJ0_coder_7d493_6 : decode cJ0_coder_7d493 6 = .ok (.aload_n 0, 1) := by decide +kernel
theorem dJ0_coder_7d493_7 : decode cJ0_coder_7d493 7 = .ok (.getfield 15, 3) := by decide +kernel
theorem dJ0_coder_7d493_10 : decode cJ0_coder_7d493 10 = .ok (.goto 4, 3) := by decide +kernel
theorem dJ0_coder_7d493_14 : decode cJ0_coder_7d493 14 = .ok (.ireturn, 1) := by decide +kernel
set_option maxHeartbeats 4000000 in
set_option maxRecDepth 100000 in
theorem s_coder_0 (l : Launch) (D : va_G) (ca : Nat → ClassId) (ad : Nat → Nat) (wt : Nat) (sd : Nat → Nat) (sz : Nat)   : tMet l yJ0_coder_7d493 wsJ0_coder_7d493 ({ frames := 0, cells := 0, slots := 0, locals := 0 } : Room) [.ref (sd 0)] D ca ad wt sd sz [] (oQi D (fun (r : Int32) (u : Unit) => (r = 0)) (fun (u : Unit) => [])) 0 0 := by
  refine tM (cc := cJ0_coder_7d493) (maxL := 1) (ret := (some .byte)) (by decide) rfl (Nat.le_of_ble_eq_true rfl) [(0, .ref (sd 0))] rfl ?_
  intro p e s m below meth c A H locs ls hx hb hr hml hts hown hlocks hin hK hP hD hA hS hl hZ hT
  have hown : s.vm.findClass RJ0 = some m.cls := hown
  have hE := hZ.2.2.2.2.2.1
  have k1 := hts (.fieldLink RJ0 38 "java/lang/String" "COMPACT_STRINGS" "Z") (by decide +kernel)
  have k2 := hts (.fieldLink RJ0 15 "java/lang/String" "coder" "B") (by decide +kernel)
  refine va_gets (v := .int 1) hx hb hT.2.2.1 hS hown k1 (fun _ h9 => h9) dJ0_coder_7d493_0 ?_
  refine lv_if_eq (tgt := 13) hx hb dJ0_coder_7d493_3 (by decide) (fun c => absurd c (by decide)) (fun _ => ?_)
  refine lv_aload_n hx hb dJ0_coder_7d493_6 rfl (lv_at hl 0 rfl) ?_
  refine vk_getf hx hb (hT.1.1 0 (by decide)).2.1 hS hown k2 (fun _ h9 => h9) dJ0_coder_7d493_7 ?_
  refine lv_goto (tgt := 14) hx hb dJ0_coder_7d493_10 (by decide) ?_
  exact oE_i hx hb hr (by decide) hlocks hP hD hS () [] rfl (by decide) rfl (Nat.le_of_ble_eq_true rfl) (Nat.le_of_ble_eq_true rfl) dJ0_coder_7d493_14
theorem dJ0_length_8abf5_0 : decode cJ0_length_8abf5 0 = .ok (.aload_n 0, 1) := by decide +kernel
theorem dJ0_length_8abf5_1 : decode cJ0_length_8abf5 1 = .ok (.getfield 9, 3) := by decide +kernel
theorem dJ0_length_8abf5_4 : decode cJ0_length_8abf5 4 = .ok (.arraylength, 1) := by decide +kernel
theorem dJ0_length_8abf5_5 : decode cJ0_length_8abf5 5 = .ok (.aload_n 0, 1) := by decide +kernel
theorem dJ0_length_8abf5_6 : decode cJ0_length_8abf5 6 = .ok (.invokevirtual 335, 3) := by decide +kernel
theorem dJ0_length_8abf5_9 : decode cJ0_length_8abf5 9 = .ok (.ishr, 1) := by decide +kernel
theorem dJ0_length_8abf5_10 : decode cJ0_length_8abf5 10 = .ok (.ireturn, 1) := by decide +kernel
set_option maxRecDepth 20000 in
theorem ggJ0_length_8abf5_J0_coder_7d493 : GoodIn wsJ0_length_8abf5 wsJ0_coder_7d493 := goodIn_r _ [6, 7, 8] rfl (by decide +kernel)
set_option maxRecDepth 20000 in
theorem gJ0_length_8abf5_J0_coder_7d493 : GoodIn wsJ0_length_8abf5 (wsV RJ0 335 RJ0 yJ0_coder_7d493 wsJ0_coder_7d493) := goodIn_app (goodIn_of _ (by decide +kernel)) ggJ0_length_8abf5_J0_coder_7d493
set_option maxHeartbeats 4000000 in
set_option maxRecDepth 100000 in
theorem s_length_0 (l : Launch) (D : va_G) (ca : Nat → ClassId) (ad : Nat → Nat) (wt : Nat) (sd : Nat → Nat) (sz : Nat)   : tMet l yJ0_length_8abf5 wsJ0_length_8abf5 ({ frames := 1, cells := 0, slots := 0, locals := 20 } : Room) [.ref (sd 0)] D ca ad wt sd sz [] (oQi D (fun (r : Int32) (u : Unit) => (r = 8)) (fun (u : Unit) => [])) 0 0 := by
  refine tM (cc := cJ0_length_8abf5) (maxL := 1) (ret := (some .int)) (by decide) rfl (Nat.le_of_ble_eq_true rfl) [(0, .ref (sd 0))] rfl ?_
  intro p e s m below meth c A H locs ls hx hb hr hml hts hown hlocks hin hK hP hD hA hS hl hZ hT
  have hown : s.vm.findClass RJ0 = some m.cls := hown
  have hE := hZ.2.2.2.2.2.1
  have k1 := hts (.fieldLink RJ0 9 "java/lang/String" "value" "[B") (by decide +kernel)
  refine lv_aload_n hx hb dJ0_length_8abf5_0 rfl (lv_at hl 0 rfl) ?_
  refine vk_getf hx hb (hT.1.1 0 (by decide)).2.2.1 hS hown k1 (fun _ h9 => h9) dJ0_length_8abf5_1 ?_
  refine va_tlen hx hb (hT.1.1 0 (by decide)).2.2.2 hS (v := 8) (by decide) dJ0_length_8abf5_4 ?_
  refine lv_aload_n hx hb dJ0_length_8abf5_5 rfl (lv_at hl 0 rfl) ?_
  refine oC_i (Wc := []) (Wr := []) (va_runV (As := []) (rest := [.int 8]) ⟨hx, hb, hml, hown, hts⟩ (s_coder_0 l D ca ad wt sd H.size ) (cwV 0 hts gJ0_length_8abf5_J0_coder_7d493 rfl rfl rfl (by decide +kernel) ⟨Nat.le_of_ble_eq_true rfl, Nat.le_of_ble_eq_true rfl⟩) (tPK 0 (by decide) hT hZ hS hA hK hP hD [] rfl (by decide)) rfl rfl hl.1 rfl (lv_room (Nat.le_of_ble_eq_true rfl)) dJ0_length_8abf5_6 ⟨Nat.le_of_ble_eq_true rfl, Nat.le_of_ble_eq_true rfl⟩) hP hD hS hA [] [] rfl rfl (by decide) (by decide) (fun r_4 u H locs w_5 hP hD hS => ?_)
  obtain ⟨⟩ := u
  have hP : va_P D vwCl [] H := hP
  have hD : va_D A [] := hD
  try dsimp only at w_5
  have h_6 := w_5
  subst h_6
  refine lv_ishr hx hb dJ0_length_8abf5_9 ?_
  refine oti 8 (by decide) ?_
  exact oE_i hx hb hr rfl hlocks hP hD hS () [] rfl (by decide) rfl (Nat.le_of_ble_eq_true rfl) (Nat.le_of_ble_eq_true rfl) dJ0_length_8abf5_10
theorem dJ0_isLatin1_aae02_0 : decode cJ0_isLatin1_aae02 0 = .ok (.getstatic 38, 3) := by decide +kernel
theorem dJ0_isLatin1_aae02_3 : decode cJ0_isLatin1_aae02 3 = .ok (.ifCond .eq 14, 3) := by decide +kernel
theorem dJ0_isLatin1_aae02_6 : decode cJ0_isLatin1_aae02 6 = .ok (.aload_n 0, 1) := by decide +kernel
theorem dJ0_isLatin1_aae02_7 : decode cJ0_isLatin1_aae02 7 = .ok (.getfield 15, 3) := by decide +kernel
theorem dJ0_isLatin1_aae02_10 : decode cJ0_isLatin1_aae02 10 = .ok (.ifCond .ne 7, 3) := by decide +kernel
theorem dJ0_isLatin1_aae02_13 : decode cJ0_isLatin1_aae02 13 = .ok (.iconst 1, 1) := by decide +kernel
theorem dJ0_isLatin1_aae02_14 : decode cJ0_isLatin1_aae02 14 = .ok (.goto 4, 3) := by decide +kernel
theorem dJ0_isLatin1_aae02_18 : decode cJ0_isLatin1_aae02 18 = .ok (.ireturn, 1) := by decide +kernel
set_option maxHeartbeats 4000000 in
set_option maxRecDepth 100000 in
theorem s_isLatin1_0 (l : Launch) (D : va_G) (ca : Nat → ClassId) (ad : Nat → Nat) (wt : Nat) (sd : Nat → Nat) (sz : Nat)   : tMet l yJ0_isLatin1_aae02 wsJ0_isLatin1_aae02 ({ frames := 0, cells := 0, slots := 0, locals := 0 } : Room) [.ref (sd 0)] D ca ad wt sd sz [] (oQi D (fun (r : Int32) (u : Unit) => (r = 1)) (fun (u : Unit) => [])) 0 0 := by
  refine tM (cc := cJ0_isLatin1_aae02) (maxL := 1) (ret := (some .boolean)) (by decide) rfl (Nat.le_of_ble_eq_true rfl) [(0, .ref (sd 0))] rfl ?_
  intro p e s m below meth c A H locs ls hx hb hr hml hts hown hlocks hin hK hP hD hA hS hl hZ hT
  have hown : s.vm.findClass RJ0 = some m.cls := hown
  have hE := hZ.2.2.2.2.2.1
  have k1 := hts (.fieldLink RJ0 38 "java/lang/String" "COMPACT_STRINGS" "Z") (by decide +kernel)
  have k2 := hts (.fieldLink RJ0 15 "java/lang/String" "coder" "B") (by decide +kernel)
  refine va_gets (v := .int 1) hx hb hT.2.2.1 hS hown k1 (fun _ h9 => h9) dJ0_isLatin1_aae02_0 ?_
  refine lv_if_eq (tgt := 17) hx hb dJ0_isLatin1_aae02_3 (by decide) (fun c => absurd c (by decide)) (fun _ => ?_)
  refine lv_aload_n hx hb dJ0_isLatin1_aae02_6 rfl (lv_at hl 0 rfl) ?_
  refine vk_getf hx hb (hT.1.1 0 (by decide)).2.1 hS hown k2 (fun _ h9 => h9) dJ0_isLatin1_aae02_7 ?_
  refine lv_if_ne (tgt := 17) hx hb dJ0_isLatin1_aae02_10 (by decide) (fun c => absurd (by decide) c) (fun _ => ?_)
  refine lv_iconst (v := 1) hx hb dJ0_isLatin1_aae02_13 (by decide) ?_
  refine lv_goto (tgt := 18) hx hb dJ0_isLatin1_aae02_14 (by decide) ?_
  exact oE_i hx hb hr (by decide) hlocks hP hD hS () [] rfl (by decide) rfl (Nat.le_of_ble_eq_true rfl) (Nat.le_of_ble_eq_true rfl) dJ0_isLatin1_aae02_18
set_option maxHeartbeats 4000000 in
set_option maxRecDepth 100000 in
theorem s_coder_1 (l : Launch) (D : va_G) (ca : Nat → ClassId) (ad : Nat → Nat) (wt : Nat) (sd : Nat → Nat) (sz : Nat)   : tMet l yJ0_coder_7d493 wsJ0_coder_7d493 ({ frames := 0, cells := 0, slots := 0, locals := 0 } : Room) [.ref (sd 1)] D ca ad wt sd sz [] (oQi D (fun (r : Int32) (u : Unit) => (r = 0)) (fun (u : Unit) => [])) 0 0 := by
  refine tM (cc := cJ0_coder_7d493) (maxL := 1) (ret := (some .byte)) (by decide) rfl (Nat.le_of_ble_eq_true rfl) [(0, .ref (sd 1))] rfl ?_
  intro p e s m below meth c A H locs ls hx hb hr hml hts hown hlocks hin hK hP hD hA hS hl hZ hT
  have hown : s.vm.findClass RJ0 = some m.cls := hown
  have hE := hZ.2.2.2.2.2.1
  have k1 := hts (.fieldLink RJ0 38 "java/lang/String" "COMPACT_STRINGS" "Z") (by decide +kernel)
  have k2 := hts (.fieldLink RJ0 15 "java/lang/String" "coder" "B") (by decide +kernel)
  refine va_gets (v := .int 1) hx hb hT.2.2.1 hS hown k1 (fun _ h9 => h9) dJ0_coder_7d493_0 ?_
  refine lv_if_eq (tgt := 13) hx hb dJ0_coder_7d493_3 (by decide) (fun c => absurd c (by decide)) (fun _ => ?_)
  refine lv_aload_n hx hb dJ0_coder_7d493_6 rfl (lv_at hl 0 rfl) ?_
  refine vk_getf hx hb (hT.1.1 1 (by decide)).2.1 hS hown k2 (fun _ h9 => h9) dJ0_coder_7d493_7 ?_
  refine lv_goto (tgt := 14) hx hb dJ0_coder_7d493_10 (by decide) ?_
  exact oE_i hx hb hr (by decide) hlocks hP hD hS () [] rfl (by decide) rfl (Nat.le_of_ble_eq_true rfl) (Nat.le_of_ble_eq_true rfl) dJ0_coder_7d493_14
set_option maxHeartbeats 4000000 in
set_option maxRecDepth 100000 in
theorem s_length_1 (l : Launch) (D : va_G) (ca : Nat → ClassId) (ad : Nat → Nat) (wt : Nat) (sd : Nat → Nat) (sz : Nat)   : tMet l yJ0_length_8abf5 wsJ0_length_8abf5 ({ frames := 1, cells := 0, slots := 0, locals := 20 } : Room) [.ref (sd 1)] D ca ad wt sd sz [] (oQi D (fun (r : Int32) (u : Unit) => (r = 12)) (fun (u : Unit) => [])) 0 0 := by
  refine tM (cc := cJ0_length_8abf5) (maxL := 1) (ret := (some .int)) (by decide) rfl (Nat.le_of_ble_eq_true rfl) [(0, .ref (sd 1))] rfl ?_
  intro p e s m below meth c A H locs ls hx hb hr hml hts hown hlocks hin hK hP hD hA hS hl hZ hT
  have hown : s.vm.findClass RJ0 = some m.cls := hown
  have hE := hZ.2.2.2.2.2.1
  have k1 := hts (.fieldLink RJ0 9 "java/lang/String" "value" "[B") (by decide +kernel)
  refine lv_aload_n hx hb dJ0_length_8abf5_0 rfl (lv_at hl 0 rfl) ?_
  refine vk_getf hx hb (hT.1.1 1 (by decide)).2.2.1 hS hown k1 (fun _ h9 => h9) dJ0_length_8abf5_1 ?_
  refine va_tlen hx hb (hT.1.1 1 (by decide)).2.2.2 hS (v := 12) (by decide) dJ0_length_8abf5_4 ?_
  refine lv_aload_n hx hb dJ0_length_8abf5_5 rfl (lv_at hl 0 rfl) ?_
  refine oC_i (Wc := []) (Wr := []) (va_runV (As := []) (rest := [.int 12]) ⟨hx, hb, hml, hown, hts⟩ (s_coder_1 l D ca ad wt sd H.size ) (cwV 0 hts gJ0_length_8abf5_J0_coder_7d493 rfl rfl rfl (by decide +kernel) ⟨Nat.le_of_ble_eq_true rfl, Nat.le_of_ble_eq_true rfl⟩) (tPK 1 (by decide) hT hZ hS hA hK hP hD [] rfl (by decide)) rfl rfl hl.1 rfl (lv_room (Nat.le_of_ble_eq_true rfl)) dJ0_length_8abf5_6 ⟨Nat.le_of_ble_eq_true rfl, Nat.le_of_ble_eq_true rfl⟩) hP hD hS hA [] [] rfl rfl (by decide) (by decide) (fun r_4 u H locs w_5 hP hD hS => ?_)
  obtain ⟨⟩ := u
  have hP : va_P D vwCl [] H := hP
  have hD : va_D A [] := hD
  try dsimp only at w_5
  have h_6 := w_5
  subst h_6
  refine lv_ishr hx hb dJ0_length_8abf5_9 ?_
  refine oti 12 (by decide) ?_
  exact oE_i hx hb hr rfl hlocks hP hD hS () [] rfl (by decide) rfl (Nat.le_of_ble_eq_true rfl) (Nat.le_of_ble_eq_true rfl) dJ0_length_8abf5_10
set_option maxHeartbeats 4000000 in
set_option maxRecDepth 100000 in
theorem s_isLatin1_1 (l : Launch) (D : va_G) (ca : Nat → ClassId) (ad : Nat → Nat) (wt : Nat) (sd : Nat → Nat) (sz : Nat)   : tMet l yJ0_isLatin1_aae02 wsJ0_isLatin1_aae02 ({ frames := 0, cells := 0, slots := 0, locals := 0 } : Room) [.ref (sd 1)] D ca ad wt sd sz [] (oQi D (fun (r : Int32) (u : Unit) => (r = 1)) (fun (u : Unit) => [])) 0 0 := by
  refine tM (cc := cJ0_isLatin1_aae02) (maxL := 1) (ret := (some .boolean)) (by decide) rfl (Nat.le_of_ble_eq_true rfl) [(0, .ref (sd 1))] rfl ?_
  intro p e s m below meth c A H locs ls hx hb hr hml hts hown hlocks hin hK hP hD hA hS hl hZ hT
  have hown : s.vm.findClass RJ0 = some m.cls := hown
  have hE := hZ.2.2.2.2.2.1
  have k1 := hts (.fieldLink RJ0 38 "java/lang/String" "COMPACT_STRINGS" "Z") (by decide +kernel)
  have k2 := hts (.fieldLink RJ0 15 "java/lang/String" "coder" "B") (by decide +kernel)
  refine va_gets (v := .int 1) hx hb hT.2.2.1 hS hown k1 (fun _ h9 => h9) dJ0_isLatin1_aae02_0 ?_
  refine lv_if_eq (tgt := 17) hx hb dJ0_isLatin1_aae02_3 (by decide) (fun c => absurd c (by decide)) (fun _ => ?_)
  refine lv_aload_n hx hb dJ0_isLatin1_aae02_6 rfl (lv_at hl 0 rfl) ?_
  refine vk_getf hx hb (hT.1.1 1 (by decide)).2.1 hS hown k2 (fun _ h9 => h9) dJ0_isLatin1_aae02_7 ?_
  refine lv_if_ne (tgt := 17) hx hb dJ0_isLatin1_aae02_10 (by decide) (fun c => absurd (by decide) c) (fun _ => ?_)
  refine lv_iconst (v := 1) hx hb dJ0_isLatin1_aae02_13 (by decide) ?_
  refine lv_goto (tgt := 18) hx hb dJ0_isLatin1_aae02_14 (by decide) ?_
  exact oE_i hx hb hr (by decide) hlocks hP hD hS () [] rfl (by decide) rfl (Nat.le_of_ble_eq_true rfl) (Nat.le_of_ble_eq_true rfl) dJ0_isLatin1_aae02_18
set_option maxHeartbeats 4000000 in
set_option maxRecDepth 100000 in
theorem s_coder_2 (l : Launch) (D : va_G) (ca : Nat → ClassId) (ad : Nat → Nat) (wt : Nat) (sd : Nat → Nat) (sz : Nat)   : tMet l yJ0_coder_7d493 wsJ0_coder_7d493 ({ frames := 0, cells := 0, slots := 0, locals := 0 } : Room) [.ref (sd 2)] D ca ad wt sd sz [] (oQi D (fun (r : Int32) (u : Unit) => (r = 0)) (fun (u : Unit) => [])) 0 0 := by
  refine tM (cc := cJ0_coder_7d493) (maxL := 1) (ret := (some .byte)) (by decide) rfl (Nat.le_of_ble_eq_true rfl) [(0, .ref (sd 2))] rfl ?_
  intro p e s m below meth c A H locs ls hx hb hr hml hts hown hlocks hin hK hP hD hA hS hl hZ hT
  have hown : s.vm.findClass RJ0 = some m.cls := hown
  have hE := hZ.2.2.2.2.2.1
  have k1 := hts (.fieldLink RJ0 38 "java/lang/String" "COMPACT_STRINGS" "Z") (by decide +kernel)
  have k2 := hts (.fieldLink RJ0 15 "java/lang/String" "coder" "B") (by decide +kernel)
  refine va_gets (v := .int 1) hx hb hT.2.2.1 hS hown k1 (fun _ h9 => h9) dJ0_coder_7d493_0 ?_
  refine lv_if_eq (tgt := 13) hx hb dJ0_coder_7d493_3 (by decide) (fun c => absurd c (by decide)) (fun _ => ?_)
  refine lv_aload_n hx hb dJ0_coder_7d493_6 rfl (lv_at hl 0 rfl) ?_
  refine vk_getf hx hb (hT.1.1 2 (by decide)).2.1 hS hown k2 (fun _ h9 => h9) dJ0_coder_7d493_7 ?_
  refine lv_goto (tgt := 14) hx hb dJ0_coder_7d493_10 (by decide) ?_
  exact oE_i hx hb hr (by decide) hlocks hP hD hS () [] rfl (by decide) rfl (Nat.le_of_ble_eq_true rfl) (Nat.le_of_ble_eq_true rfl) dJ0_coder_7d493_14
set_option maxHeartbeats 4000000 in
set_option maxRecDepth 100000 in
theorem s_length_2 (l : Launch) (D : va_G) (ca : Nat → ClassId) (ad : Nat → Nat) (wt : Nat) (sd : Nat → Nat) (sz : Nat)   : tMet l yJ0_length_8abf5 wsJ0_length_8abf5 ({ frames := 1, cells := 0, slots := 0, locals := 20 } : Room) [.ref (sd 2)] D ca ad wt sd sz [] (oQi D (fun (r : Int32) (u : Unit) => (r = 14)) (fun (u : Unit) => [])) 0 0 := by
  refine tM (cc := cJ0_length_8abf5) (maxL := 1) (ret := (some .int)) (by decide) rfl (Nat.le_of_ble_eq_true rfl) [(0, .ref (sd 2))] rfl ?_
  intro p e s m below meth c A H locs ls hx hb hr hml hts hown hlocks hin hK hP hD hA hS hl hZ hT
  have hown : s.vm.findClass RJ0 = some m.cls := hown
  have hE := hZ.2.2.2.2.2.1
  have k1 := hts (.fieldLink RJ0 9 "java/lang/String" "value" "[B") (by decide +kernel)
  refine lv_aload_n hx hb dJ0_length_8abf5_0 rfl (lv_at hl 0 rfl) ?_
  refine vk_getf hx hb (hT.1.1 2 (by decide)).2.2.1 hS hown k1 (fun _ h9 => h9) dJ0_length_8abf5_1 ?_
  refine va_tlen hx hb (hT.1.1 2 (by decide)).2.2.2 hS (v := 14) (by decide) dJ0_length_8abf5_4 ?_
  refine lv_aload_n hx hb dJ0_length_8abf5_5 rfl (lv_at hl 0 rfl) ?_
  refine oC_i (Wc := []) (Wr := []) (va_runV (As := []) (rest := [.int 14]) ⟨hx, hb, hml, hown, hts⟩ (s_coder_2 l D ca ad wt sd H.size ) (cwV 0 hts gJ0_length_8abf5_J0_coder_7d493 rfl rfl rfl (by decide +kernel) ⟨Nat.le_of_ble_eq_true rfl, Nat.le_of_ble_eq_true rfl⟩) (tPK 2 (by decide) hT hZ hS hA hK hP hD [] rfl (by decide)) rfl rfl hl.1 rfl (lv_room (Nat.le_of_ble_eq_true rfl)) dJ0_length_8abf5_6 ⟨Nat.le_of_ble_eq_true rfl, Nat.le_of_ble_eq_true rfl⟩) hP hD hS hA [] [] rfl rfl (by decide) (by decide) (fun r_4 u H locs w_5 hP hD hS => ?_)
  obtain ⟨⟩ := u
  have hP : va_P D vwCl [] H := hP
  have hD : va_D A [] := hD
  try dsimp only at w_5
  have h_6 := w_5
  subst h_6
  refine lv_ishr hx hb dJ0_length_8abf5_9 ?_
  refine oti 14 (by decide) ?_
  exact oE_i hx hb hr rfl hlocks hP hD hS () [] rfl (by decide) rfl (Nat.le_of_ble_eq_true rfl) (Nat.le_of_ble_eq_true rfl) dJ0_length_8abf5_10
set_option maxHeartbeats 4000000 in
set_option maxRecDepth 100000 in
theorem s_isLatin1_2 (l : Launch) (D : va_G) (ca : Nat → ClassId) (ad : Nat → Nat) (wt : Nat) (sd : Nat → Nat) (sz : Nat)   : tMet l yJ0_isLatin1_aae02 wsJ0_isLatin1_aae02 ({ frames := 0, cells := 0, slots := 0, locals := 0 } : Room) [.ref (sd 2)] D ca ad wt sd sz [] (oQi D (fun (r : Int32) (u : Unit) => (r = 1)) (fun (u : Unit) => [])) 0 0 := by
  refine tM (cc := cJ0_isLatin1_aae02) (maxL := 1) (ret := (some .boolean)) (by decide) rfl (Nat.le_of_ble_eq_true rfl) [(0, .ref (sd 2))] rfl ?_
  intro p e s m below meth c A H locs ls hx hb hr hml hts hown hlocks hin hK hP hD hA hS hl hZ hT
  have hown : s.vm.findClass RJ0 = some m.cls := hown
  have hE := hZ.2.2.2.2.2.1
  have k1 := hts (.fieldLink RJ0 38 "java/lang/String" "COMPACT_STRINGS" "Z") (by decide +kernel)
  have k2 := hts (.fieldLink RJ0 15 "java/lang/String" "coder" "B") (by decide +kernel)
  refine va_gets (v := .int 1) hx hb hT.2.2.1 hS hown k1 (fun _ h9 => h9) dJ0_isLatin1_aae02_0 ?_
  refine lv_if_eq (tgt := 17) hx hb dJ0_isLatin1_aae02_3 (by decide) (fun c => absurd c (by decide)) (fun _ => ?_)
  refine lv_aload_n hx hb dJ0_isLatin1_aae02_6 rfl (lv_at hl 0 rfl) ?_
  refine vk_getf hx hb (hT.1.1 2 (by decide)).2.1 hS hown k2 (fun _ h9 => h9) dJ0_isLatin1_aae02_7 ?_
  refine lv_if_ne (tgt := 17) hx hb dJ0_isLatin1_aae02_10 (by decide) (fun c => absurd (by decide) c) (fun _ => ?_)
  refine lv_iconst (v := 1) hx hb dJ0_isLatin1_aae02_13 (by decide) ?_
  refine lv_goto (tgt := 18) hx hb dJ0_isLatin1_aae02_14 (by decide) ?_
  exact oE_i hx hb hr (by decide) hlocks hP hD hS () [] rfl (by decide) rfl (Nat.le_of_ble_eq_true rfl) (Nat.le_of_ble_eq_true rfl) dJ0_isLatin1_aae02_18
theorem dJ3_checkIndex_8e157_0 : decode cJ3_checkIndex_8e157 0 = .ok (.iload_n 0, 1) := by decide +kernel
theorem dJ3_checkIndex_8e157_1 : decode cJ3_checkIndex_8e157 1 = .ok (.ifCond .lt 8, 3) := by decide +kernel
theorem dJ3_checkIndex_8e157_4 : decode cJ3_checkIndex_8e157 4 = .ok (.iload_n 0, 1) := by decide +kernel
theorem dJ3_checkIndex_8e157_5 : decode cJ3_checkIndex_8e157 5 = .ok (.iload_n 1, 1) := by decide +kernel
theorem dJ3_checkIndex_8e157_6 : decode cJ3_checkIndex_8e157 6 = .ok (.if_icmp .lt 10, 3) := by decide +kernel
theorem dJ3_checkIndex_8e157_16 : decode cJ3_checkIndex_8e157 16 = .ok (.iload_n 0, 1) := by decide +kernel
theorem dJ3_checkIndex_8e157_17 : decode cJ3_checkIndex_8e157 17 = .ok (.ireturn, 1) := by decide +kernel
set_option maxHeartbeats 4000000 in
set_option maxRecDepth 100000 in
theorem s_checkIndexJ3 (l : Launch) (D : va_G) (ca : Nat → ClassId) (sz : Nat) (a1 : Int32) (a2 : Int32) (i_a1 : rg 0 13 a1) (hlt : rl 1 a1 a2) : oMet l yJ3_checkIndex_8e157 wsJ3_checkIndex_8e157 ({ frames := 0, cells := 0, slots := 0, locals := 0 } : Room) [.int a1, .int a2, .null] D ca sz [] (oQi D (fun (r : Int32) (u : Unit) => (r = a1) ∧ (rg 1 2147483647 a2) ∧ (rl 0 a1 r) ∧ (rl 0 r a1) ∧ (rl 1 r a2)) (fun (u : Unit) => [])) 0 0 := by
  refine oM (cc := cJ3_checkIndex_8e157) (maxL := 3) (ret := (some .int)) (by decide) rfl (Nat.le_of_ble_eq_true rfl) [(0, .int a1), (1, .int a2), (2, .null)] rfl ?_
  intro p e s m below meth c A H locs ls hx hb hr hml hts hown hlocks hin hK hP hD hA hS hl
  have hown : s.vm.findClass RJ3 = some m.cls := hown
  refine lv_iload_n hx hb dJ3_checkIndex_8e157_0 rfl (lv_at hl 0 rfl) ?_
  refine lv_if_lt (tgt := 9) hx hb dJ3_checkIndex_8e157_1 (by decide) (fun c => absurd c (no_lt i_a1 (⟨by decide, by decide⟩ : rg 0 0 (0 : Int32)) (by decide))) (fun _ => ?_)
  refine lv_iload_n hx hb dJ3_checkIndex_8e157_4 rfl (lv_at hl 0 rfl) ?_
  refine lv_iload_n hx hb dJ3_checkIndex_8e157_5 rfl (lv_at hl 1 rfl) ?_
  refine lv_icmp_lt (tgt := 16) hx hb dJ3_checkIndex_8e157_6 (by decide) (fun c_5 => ?_) (fun c_5 => ?_)
  · skip
    have o_6 : rl 1 a1 a2 := rl_lt c_5
    have h_7 : rg 1 2147483647 a2 := rl_y o_6 i_a1 (rga a2) (by decide) (by decide)
    refine lv_iload_n hx hb dJ3_checkIndex_8e157_16 rfl (lv_at hl 0 rfl) ?_
    exact oE_i hx hb hr rfl hlocks hP hD hS () [] rfl (by decide) ⟨rfl, h_7, (show rl 0 a1 a1 from rlm (by omega)), (show rl 0 a1 a1 from rlm (by omega)), (show rl 1 a1 a2 from rlm (by have q0 := rle hlt; omega))⟩ (Nat.le_of_ble_eq_true rfl) (Nat.le_of_ble_eq_true rfl) dJ3_checkIndex_8e157_17
  · skip
    have o_8 : rl 0 a2 a1 := rl_nlt c_5
    exact False.elim (by have z0 := rle o_8; have q0 := rle hlt; omega)
set_option maxHeartbeats 4000000 in
set_option maxRecDepth 100000 in
theorem s_checkIndexJ3q (l : Launch) (D : va_G) (ca : Nat → ClassId) (sz : Nat) (a1 : Int32) (a2 : Int32) (qf : Nat) (i_a1 : rg 0 13 a1) (hlt : rl 1 a1 a2) : oMet l yJ3_checkIndex_8e157 wsJ3_checkIndex_8e157 ({ frames := 0, cells := 0, slots := 0, locals := 0 } : Room) [.int a1, .int a2, .ref qf] D ca sz [] (oQi D (fun (r : Int32) (u : Unit) => (r = a1) ∧ (rg 1 2147483647 a2) ∧ (rl 0 a1 r) ∧ (rl 0 r a1) ∧ (rl 1 r a2)) (fun (u : Unit) => [])) 0 0 := by
  refine oM (cc := cJ3_checkIndex_8e157) (maxL := 3) (ret := (some .int)) (by decide) rfl (Nat.le_of_ble_eq_true rfl) [(0, .int a1), (1, .int a2), (2, .ref qf)] rfl ?_
  intro p e s m below meth c A H locs ls hx hb hr hml hts hown hlocks hin hK hP hD hA hS hl
  have hown : s.vm.findClass RJ3 = some m.cls := hown
  refine lv_iload_n hx hb dJ3_checkIndex_8e157_0 rfl (lv_at hl 0 rfl) ?_
  refine lv_if_lt (tgt := 9) hx hb dJ3_checkIndex_8e157_1 (by decide) (fun c => absurd c (no_lt i_a1 (⟨by decide, by decide⟩ : rg 0 0 (0 : Int32)) (by decide))) (fun _ => ?_)
  refine lv_iload_n hx hb dJ3_checkIndex_8e157_4 rfl (lv_at hl 0 rfl) ?_
  refine lv_iload_n hx hb dJ3_checkIndex_8e157_5 rfl (lv_at hl 1 rfl) ?_
  refine lv_icmp_lt (tgt := 16) hx hb dJ3_checkIndex_8e157_6 (by decide) (fun c_5 => ?_) (fun c_5 => ?_)
  · skip
    have o_6 : rl 1 a1 a2 := rl_lt c_5
    have h_7 : rg 1 2147483647 a2 := rl_y o_6 i_a1 (rga a2) (by decide) (by decide)
    refine lv_iload_n hx hb dJ3_checkIndex_8e157_16 rfl (lv_at hl 0 rfl) ?_
    exact oE_i hx hb hr rfl hlocks hP hD hS () [] rfl (by decide) ⟨rfl, h_7, (show rl 0 a1 a1 from rlm (by omega)), (show rl 0 a1 a1 from rlm (by omega)), (show rl 1 a1 a2 from rlm (by have q0 := rle hlt; omega))⟩ (Nat.le_of_ble_eq_true rfl) (Nat.le_of_ble_eq_true rfl) dJ3_checkIndex_8e157_17
  · skip
    have o_8 : rl 0 a2 a1 := rl_nlt c_5
    exact False.elim (by have z0 := rle o_8; have q0 := rle hlt; omega)
theorem dJ0_checkIndex_df160_0 : decode cJ0_checkIndex_df160 0 = .ok (.iload_n 0, 1) := by decide +kernel
theorem dJ0_checkIndex_df160_1 : decode cJ0_checkIndex_df160 1 = .ok (.iload_n 1, 1) := by decide +kernel
theorem dJ0_checkIndex_df160_2 : decode cJ0_checkIndex_df160 2 = .ok (.getstatic 1053, 3) := by decide +kernel
theorem dJ0_checkIndex_df160_5 : decode cJ0_checkIndex_df160 5 = .ok (.invokestatic 1059, 3) := by decide +kernel
theorem dJ0_checkIndex_df160_8 : decode cJ0_checkIndex_df160 8 = .ok (.pop, 1) := by decide +kernel
theorem dJ0_checkIndex_df160_9 : decode cJ0_checkIndex_df160 9 = .ok (.return_, 1) := by decide +kernel
set_option maxRecDepth 20000 in
theorem ggJ0_checkIndex_df160_J3_checkIndex_8e157 : GoodIn wsJ0_checkIndex_df160 wsJ3_checkIndex_8e157 := goodIn_r _ [5] rfl (by decide +kernel)
set_option maxRecDepth 20000 in
theorem gJ0_checkIndex_df160_J3_checkIndex_8e157 : GoodIn wsJ0_checkIndex_df160 (va_wsS RJ0 1059 yJ3_checkIndex_8e157 wsJ3_checkIndex_8e157) := goodIn_app (goodIn_of _ (by decide +kernel)) ggJ0_checkIndex_df160_J3_checkIndex_8e157
set_option maxHeartbeats 4000000 in
set_option maxRecDepth 100000 in
theorem s_checkIndexJ0 (l : Launch) (D : va_G) (ca : Nat → ClassId) (ad : Nat → Nat) (wt : Nat) (sd : Nat → Nat) (sz : Nat) (a1 : Int32) (a2 : Int32) (i_a1 : rg 0 13 a1) (hlt : rl 1 a1 a2) : tMet l yJ0_checkIndex_df160 wsJ0_checkIndex_df160 ({ frames := 1, cells := 0, slots := 0, locals := 22 } : Room) [.int a1, .int a2] D ca ad wt sd sz [] (oQv D (fun (u : Unit) => (rg 1 2147483647 a2) ∧ (rl 0 a1 a1)) (fun (u : Unit) => [])) 0 0 := by
  refine tM (cc := cJ0_checkIndex_df160) (maxL := 2) (ret := none) (by decide) rfl (Nat.le_of_ble_eq_true rfl) [(0, .int a1), (1, .int a2)] rfl ?_
  intro p e s m below meth c A H locs ls hx hb hr hml hts hown hlocks hin hK hP hD hA hS hl hZ hT
  have hown : s.vm.findClass RJ0 = some m.cls := hown
  have hE := hZ.2.2.2.2.2.1
  have k1 := hts (.fieldLink RJ0 1053 "jdk/internal/util/Preconditions" "SIOOBE_FORMATTER" "Ljava/util/function/BiFunction;") (by decide +kernel)
  refine lv_iload_n hx hb dJ0_checkIndex_df160_0 rfl (lv_at hl 0 rfl) ?_
  refine lv_iload_n hx hb dJ0_checkIndex_df160_1 rfl (lv_at hl 1 rfl) ?_
  rcases hT.2.2.2 with h_18 | ⟨n_17, h_18⟩
  · skip
    refine va_gets (v := .null) hx hb h_18 hS hown k1 (fun _ h9 => h9) dJ0_checkIndex_df160_2 ?_
    refine oC_i (Wc := []) (Wr := []) (va_runS (As := [.int a1, .int a2, .null]) (rest := []) ⟨hx, hb, hml, hown, hts⟩ (s_checkIndexJ3 l D ca H.size a1 a2 i_a1 (rlm (by have q0 := rle hlt; omega))) (va_cwS 3 hts gJ0_checkIndex_df160_J3_checkIndex_8e157 rfl rfl rfl (by decide +kernel) ⟨Nat.le_of_ble_eq_true rfl, Nat.le_of_ble_eq_true rfl⟩) (oPS hK hP hD [] rfl (by decide)) rfl rfl hl.1 rfl (lv_room (Nat.le_of_ble_eq_true rfl)) dJ0_checkIndex_df160_5 ⟨Nat.le_of_ble_eq_true rfl, Nat.le_of_ble_eq_true rfl⟩) hP hD hS hA [] [] rfl rfl (by decide) (by decide) (fun r_19 u H locs w_20 hP hD hS => ?_)
    obtain ⟨⟩ := u
    have hP : va_P D vwCl [] H := hP
    have hD : va_D A [] := hD
    try dsimp only at w_20
    obtain ⟨h_21, h_22, h_23, h_24, h_25⟩ := w_20
    have h_21' := h_21.symm
    subst h_21'
    refine lv_pop hx hb dJ0_checkIndex_df160_8 rfl ?_
    exact oE_v hx hb hr hlocks hP hD hS () [] rfl (by decide) ⟨h_22, (show rl 0 a1 a1 from rlm (by omega))⟩ (Nat.le_of_ble_eq_true rfl) (Nat.le_of_ble_eq_true rfl) dJ0_checkIndex_df160_9
  · skip
    refine va_gets (v := .ref n_17) hx hb h_18 hS hown k1 (fun _ h9 => h9) dJ0_checkIndex_df160_2 ?_
    refine oC_i (Wc := []) (Wr := []) (va_runS (As := [.int a1, .int a2, .ref n_17]) (rest := []) ⟨hx, hb, hml, hown, hts⟩ (s_checkIndexJ3q l D ca H.size a1 a2 n_17 i_a1 (rlm (by have q0 := rle hlt; omega))) (va_cwS 3 hts gJ0_checkIndex_df160_J3_checkIndex_8e157 rfl rfl rfl (by decide +kernel) ⟨Nat.le_of_ble_eq_true rfl, Nat.le_of_ble_eq_true rfl⟩) (oPS hK hP hD [] rfl (by decide)) rfl rfl hl.1 rfl (lv_room (Nat.le_of_ble_eq_true rfl)) dJ0_checkIndex_df160_5 ⟨Nat.le_of_ble_eq_true rfl, Nat.le_of_ble_eq_true rfl⟩) hP hD hS hA [] [] rfl rfl (by decide) (by decide) (fun r_26 u H locs w_27 hP hD hS => ?_)
    obtain ⟨⟩ := u
    have hP : va_P D vwCl [] H := hP
    have hD : va_D A [] := hD
    try dsimp only at w_27
    obtain ⟨h_28, h_29, h_30, h_31, h_32⟩ := w_27
    have h_28' := h_28.symm
    subst h_28'
    refine lv_pop hx hb dJ0_checkIndex_df160_8 rfl ?_
    exact oE_v hx hb hr hlocks hP hD hS () [] rfl (by decide) ⟨h_29, (show rl 0 a1 a1 from rlm (by omega))⟩ (Nat.le_of_ble_eq_true rfl) (Nat.le_of_ble_eq_true rfl) dJ0_checkIndex_df160_9
theorem dJ1_charAt_3b067_0 : decode cJ1_charAt_3b067 0 = .ok (.iload_n 1, 1) := by decide +kernel
theorem dJ1_charAt_3b067_1 : decode cJ1_charAt_3b067 1 = .ok (.aload_n 0, 1) := by decide +kernel
theorem dJ1_charAt_3b067_2 : decode cJ1_charAt_3b067 2 = .ok (.arraylength, 1) := by decide +kernel
theorem dJ1_charAt_3b067_3 : decode cJ1_charAt_3b067 3 = .ok (.invokestatic 9, 3) := by decide +kernel
theorem dJ1_charAt_3b067_6 : decode cJ1_charAt_3b067 6 = .ok (.aload_n 0, 1) := by decide +kernel
theorem dJ1_charAt_3b067_7 : decode cJ1_charAt_3b067 7 = .ok (.iload_n 1, 1) := by decide +kernel
theorem dJ1_charAt_3b067_8 : decode cJ1_charAt_3b067 8 = .ok (.baload, 1) := by decide +kernel
theorem dJ1_charAt_3b067_9 : decode cJ1_charAt_3b067 9 = .ok (.sipush 255, 3) := by decide +kernel
theorem dJ1_charAt_3b067_12 : decode cJ1_charAt_3b067 12 = .ok (.iand, 1) := by decide +kernel
theorem dJ1_charAt_3b067_13 : decode cJ1_charAt_3b067 13 = .ok (.i2c, 1) := by decide +kernel
theorem dJ1_charAt_3b067_14 : decode cJ1_charAt_3b067 14 = .ok (.ireturn, 1) := by decide +kernel
set_option maxRecDepth 20000 in
theorem ggJ1_charAt_3b067_J0_checkIndex_df160 : GoodIn wsJ1_charAt_3b067 wsJ0_checkIndex_df160 := goodIn_r _ [4, 5, 6, 7, 8, 9] rfl (by decide +kernel)
set_option maxRecDepth 20000 in
theorem gJ1_charAt_3b067_J0_checkIndex_df160 : GoodIn wsJ1_charAt_3b067 (va_wsS RJ1 9 yJ0_checkIndex_df160 wsJ0_checkIndex_df160) := goodIn_app (goodIn_of _ (by decide +kernel)) ggJ1_charAt_3b067_J0_checkIndex_df160
set_option maxHeartbeats 4000000 in
set_option maxRecDepth 100000 in
theorem s_charAtJ1_0 (l : Launch) (D : va_G) (ca : Nat → ClassId) (ad : Nat → Nat) (wt : Nat) (sd : Nat → Nat) (sz : Nat) (a2 : Int32) (i_a2 : rg 0 7 a2) : tMet l yJ1_charAt_3b067 wsJ1_charAt_3b067 ({ frames := 2, cells := 0, slots := 0, locals := 43 } : Room) [.ref (sd 4), .int a2] D ca ad wt sd sz [] (oQi D (fun (r : Int32) (u : Unit) => (rl 0 a2 a2) ∧ (narrow .char (.int r) = .int r)) (fun (u : Unit) => [])) 0 0 := by
  refine tM (cc := cJ1_charAt_3b067) (maxL := 2) (ret := (some .char)) (by decide) rfl (Nat.le_of_ble_eq_true rfl) [(0, .ref (sd 4)), (1, .int a2)] rfl ?_
  intro p e s m below meth c A H locs ls hx hb hr hml hts hown hlocks hin hK hP hD hA hS hl hZ hT
  have hown : s.vm.findClass RJ1 = some m.cls := hown
  have hE := hZ.2.2.2.2.2.1
  refine lv_iload_n hx hb dJ1_charAt_3b067_0 rfl (lv_at hl 1 rfl) ?_
  refine lv_aload_n hx hb dJ1_charAt_3b067_1 rfl (lv_at hl 0 rfl) ?_
  refine va_tlen hx hb (hT.1.1 0 (by decide)).2.2.2 hS (v := 8) (by decide) dJ1_charAt_3b067_2 ?_
  refine oC_v (Wc := []) (Wr := []) (va_runS (As := [.int a2, .int 8]) (rest := []) ⟨hx, hb, hml, hown, hts⟩ (s_checkIndexJ0 l D ca ad wt sd H.size a2 8 (rgw (lo := 0) (hi := 13) i_a2 (by decide) (by decide)) (rlm (by have q0 := (show (8 : Int32).toInt = 8 by decide); have q1 := (i_a2).1; have q2 := (i_a2).2; omega))) (va_cwS 2 hts gJ1_charAt_3b067_J0_checkIndex_df160 rfl rfl rfl (by decide +kernel) ⟨Nat.le_of_ble_eq_true rfl, Nat.le_of_ble_eq_true rfl⟩) (tPS hT hZ hS hA hK hP hD [] rfl (by decide)) rfl rfl hl.1 rfl (lv_room (Nat.le_of_ble_eq_true rfl)) dJ1_charAt_3b067_3 ⟨Nat.le_of_ble_eq_true rfl, Nat.le_of_ble_eq_true rfl⟩) hP hD hS hA [] [] rfl rfl (by decide) (by decide) (fun u H locs w_10 hP hD hS => ?_)
  obtain ⟨⟩ := u
  have hP : va_P D vwCl [] H := hP
  have hD : va_D A [] := hD
  try dsimp only at w_10
  obtain ⟨h_11, h_12⟩ := w_10
  refine lv_aload_n hx hb dJ1_charAt_3b067_6 rfl (lv_at hl 0 rfl) ?_
  refine lv_iload_n hx hb dJ1_charAt_3b067_7 rfl (lv_at hl 1 rfl) ?_
  refine va_tb hx hb (hT.1.1 0 (by decide)).2.2.2 hS (rg_in i_a2 (by decide) (by decide)) rfl dJ1_charAt_3b067_8 ?_
  refine lv_topi (fun x_13 ex_13 => ?_)
  refine lv_sipush (v := 255) hx hb dJ1_charAt_3b067_9 (by decide) ?_
  refine lv_iand hx hb dJ1_charAt_3b067_12 ?_
  refine lv_topi (fun x_14 ex_14 => ?_)
  have h_15 : rg 0 255 x_14 := by rw [ex_14]; exact rg_and' (⟨by decide, by decide⟩ : rg 255 255 (255 : Int32)) (by decide) (by decide) (by decide)
  refine lv_i2c hx hb dJ1_charAt_3b067_13 rfl ?_
  refine lv_topi (fun x_16 ex_16 => ?_)
  exact oE_i hx hb hr (nar_c ex_16) hlocks hP hD hS () [] rfl (by decide) ⟨(show rl 0 a2 a2 from rlm (by omega)), (nar_c ex_16)⟩ (Nat.le_of_ble_eq_true rfl) (Nat.le_of_ble_eq_true rfl) dJ1_charAt_3b067_14
theorem dJ0_charAt_5068e_0 : decode cJ0_charAt_5068e 0 = .ok (.aload_n 0, 1) := by decide +kernel
theorem dJ0_charAt_5068e_1 : decode cJ0_charAt_5068e 1 = .ok (.invokevirtual 492, 3) := by decide +kernel
theorem dJ0_charAt_5068e_4 : decode cJ0_charAt_5068e 4 = .ok (.ifCond .eq 12, 3) := by decide +kernel
theorem dJ0_charAt_5068e_7 : decode cJ0_charAt_5068e 7 = .ok (.aload_n 0, 1) := by decide +kernel
theorem dJ0_charAt_5068e_8 : decode cJ0_charAt_5068e 8 = .ok (.getfield 9, 3) := by decide +kernel
theorem dJ0_charAt_5068e_11 : decode cJ0_charAt_5068e 11 = .ok (.iload_n 1, 1) := by decide +kernel
theorem dJ0_charAt_5068e_12 : decode cJ0_charAt_5068e 12 = .ok (.invokestatic 495, 3) := by decide +kernel
theorem dJ0_charAt_5068e_15 : decode cJ0_charAt_5068e 15 = .ok (.ireturn, 1) := by decide +kernel
set_option maxRecDepth 20000 in
theorem ggJ0_charAt_5068e_J0_isLatin1_aae02 : GoodIn wsJ0_charAt_5068e wsJ0_isLatin1_aae02 := goodIn_r _ [6, 7, 8] rfl (by decide +kernel)
set_option maxRecDepth 20000 in
theorem gJ0_charAt_5068e_J0_isLatin1_aae02 : GoodIn wsJ0_charAt_5068e (wsV RJ0 492 RJ0 yJ0_isLatin1_aae02 wsJ0_isLatin1_aae02) := goodIn_app (goodIn_of _ (by decide +kernel)) ggJ0_charAt_5068e_J0_isLatin1_aae02
set_option maxRecDepth 20000 in
theorem ggJ0_charAt_5068e_J1_charAt_3b067 : GoodIn wsJ0_charAt_5068e wsJ1_charAt_3b067 := goodIn_r _ [12, 13, 14, 5, 15, 16, 17, 18, 19, 20] rfl (by decide +kernel)
set_option maxRecDepth 20000 in
theorem gJ0_charAt_5068e_J1_charAt_3b067 : GoodIn wsJ0_charAt_5068e (va_wsS RJ0 495 yJ1_charAt_3b067 wsJ1_charAt_3b067) := goodIn_app (goodIn_of _ (by decide +kernel)) ggJ0_charAt_5068e_J1_charAt_3b067
set_option maxHeartbeats 4000000 in
set_option maxRecDepth 100000 in
theorem s_charAt_0 (l : Launch) (D : va_G) (ca : Nat → ClassId) (ad : Nat → Nat) (wt : Nat) (sd : Nat → Nat) (sz : Nat) (a1 : Int32) (i_a1 : rg 0 7 a1) : tMet l yJ0_charAt_5068e wsJ0_charAt_5068e ({ frames := 3, cells := 0, slots := 0, locals := 64 } : Room) [.ref (sd 0), .int a1] D ca ad wt sd sz [] (oQi D (fun (r : Int32) (u : Unit) => (rl 0 a1 a1) ∧ (narrow .char (.int r) = .int r)) (fun (u : Unit) => [])) 0 0 := by
  refine tM (cc := cJ0_charAt_5068e) (maxL := 2) (ret := (some .char)) (by decide) rfl (Nat.le_of_ble_eq_true rfl) [(0, .ref (sd 0)), (1, .int a1)] rfl ?_
  intro p e s m below meth c A H locs ls hx hb hr hml hts hown hlocks hin hK hP hD hA hS hl hZ hT
  have hown : s.vm.findClass RJ0 = some m.cls := hown
  have hE := hZ.2.2.2.2.2.1
  have k1 := hts (.fieldLink RJ0 9 "java/lang/String" "value" "[B") (by decide +kernel)
  refine lv_aload_n hx hb dJ0_charAt_5068e_0 rfl (lv_at hl 0 rfl) ?_
  refine oC_i (Wc := []) (Wr := []) (va_runV (As := []) (rest := []) ⟨hx, hb, hml, hown, hts⟩ (s_isLatin1_0 l D ca ad wt sd H.size ) (cwV 0 hts gJ0_charAt_5068e_J0_isLatin1_aae02 rfl rfl rfl (by decide +kernel) ⟨Nat.le_of_ble_eq_true rfl, Nat.le_of_ble_eq_true rfl⟩) (tPK 0 (by decide) hT hZ hS hA hK hP hD [] rfl (by decide)) rfl rfl hl.1 rfl (lv_room (Nat.le_of_ble_eq_true rfl)) dJ0_charAt_5068e_1 ⟨Nat.le_of_ble_eq_true rfl, Nat.le_of_ble_eq_true rfl⟩) hP hD hS hA [] [] rfl rfl (by decide) (by decide) (fun r_8 u H locs w_9 hP hD hS => ?_)
  obtain ⟨⟩ := u
  have hP : va_P D vwCl [] H := hP
  have hD : va_D A [] := hD
  try dsimp only at w_9
  have h_10 := w_9
  subst h_10
  refine lv_if_eq (tgt := 16) hx hb dJ0_charAt_5068e_4 (by decide) (fun c => absurd c (by decide)) (fun _ => ?_)
  refine lv_aload_n hx hb dJ0_charAt_5068e_7 rfl (lv_at hl 0 rfl) ?_
  refine vk_getf hx hb (hT.1.1 0 (by decide)).2.2.1 hS hown k1 (fun _ h9 => h9) dJ0_charAt_5068e_8 ?_
  refine lv_iload_n hx hb dJ0_charAt_5068e_11 rfl (lv_at hl 1 rfl) ?_
  refine oC_i (Wc := []) (Wr := []) (va_runS (As := [.ref (sd 4), .int a1]) (rest := []) ⟨hx, hb, hml, hown, hts⟩ (s_charAtJ1_0 l D ca ad wt sd H.size a1 i_a1) (va_cwS 2 hts gJ0_charAt_5068e_J1_charAt_3b067 rfl rfl rfl (by decide +kernel) ⟨Nat.le_of_ble_eq_true rfl, Nat.le_of_ble_eq_true rfl⟩) (tPS hT hZ hS hA hK hP hD [] rfl (by decide)) rfl rfl hl.1 rfl (lv_room (Nat.le_of_ble_eq_true rfl)) dJ0_charAt_5068e_12 ⟨Nat.le_of_ble_eq_true rfl, Nat.le_of_ble_eq_true rfl⟩) hP hD hS hA [] [] rfl rfl (by decide) (by decide) (fun r_11 u H locs w_12 hP hD hS => ?_)
  obtain ⟨⟩ := u
  have hP : va_P D vwCl [] H := hP
  have hD : va_D A [] := hD
  try dsimp only at w_12
  obtain ⟨h_13, h_14⟩ := w_12
  exact oE_i hx hb hr h_14 hlocks hP hD hS () [] rfl (by decide) ⟨(show rl 0 a1 a1 from rlm (by omega)), h_14⟩ (Nat.le_of_ble_eq_true rfl) (Nat.le_of_ble_eq_true rfl) dJ0_charAt_5068e_15
theorem dX11_writeText_0 : decode cX11_writeText 0 = .ok (.iconst 0, 1) := by decide +kernel
theorem dX11_writeText_1 : decode cX11_writeText 1 = .ok (.istore_n 2, 1) := by decide +kernel
theorem dX11_writeText_2 : decode cX11_writeText 2 = .ok (.iload_n 2, 1) := by decide +kernel
theorem dX11_writeText_3 : decode cX11_writeText 3 = .ok (.aload_n 1, 1) := by decide +kernel
theorem dX11_writeText_4 : decode cX11_writeText 4 = .ok (.invokevirtual 395, 3) := by decide +kernel
theorem dX11_writeText_7 : decode cX11_writeText 7 = .ok (.if_icmp .ge 18, 3) := by decide +kernel
theorem dX11_writeText_10 : decode cX11_writeText 10 = .ok (.aload_n 0, 1) := by decide +kernel
theorem dX11_writeText_11 : decode cX11_writeText 11 = .ok (.aload_n 1, 1) := by decide +kernel
theorem dX11_writeText_12 : decode cX11_writeText 12 = .ok (.iload_n 2, 1) := by decide +kernel
theorem dX11_writeText_13 : decode cX11_writeText 13 = .ok (.invokevirtual 399, 3) := by decide +kernel
theorem dX11_writeText_16 : decode cX11_writeText 16 = .ok (.invokevirtual 324, 3) := by decide +kernel
theorem dX11_writeText_19 : decode cX11_writeText 19 = .ok (.iinc 2 1, 3) := by decide +kernel
theorem dX11_writeText_22 : decode cX11_writeText 22 = .ok (.goto (-20), 3) := by decide +kernel
theorem dX11_writeText_25 : decode cX11_writeText 25 = .ok (.return_, 1) := by decide +kernel
set_option maxRecDepth 20000 in
theorem ggX11_writeText_J0_length_8abf5 : GoodIn wsX11_writeText wsJ0_length_8abf5 := goodIn_r _ [5, 6, 7, 8, 9, 4, 10, 11, 12] rfl (by decide +kernel)
set_option maxRecDepth 20000 in
theorem gX11_writeText_J0_length_8abf5 : GoodIn wsX11_writeText (wsV RX11 395 RJ0 yJ0_length_8abf5 wsJ0_length_8abf5) := goodIn_app (goodIn_of _ (by decide +kernel)) ggX11_writeText_J0_length_8abf5
set_option maxRecDepth 20000 in
theorem ggX11_writeText_J0_charAt_5068e : GoodIn wsX11_writeText wsJ0_charAt_5068e := goodIn_r _ [16, 6, 17, 18, 19, 4, 20, 11, 12, 21, 22, 23, 24, 25, 26, 27, 28, 29, 30, 31, 32, 33, 34, 35, 36, 37, 38, 39, 40, 41, 42, 43, 44, 45, 46, 47, 48, 49] rfl (by decide +kernel)
set_option maxRecDepth 20000 in
theorem gX11_writeText_J0_charAt_5068e : GoodIn wsX11_writeText (wsV RX11 399 RJ0 yJ0_charAt_5068e wsJ0_charAt_5068e) := goodIn_app (goodIn_of _ (by decide +kernel)) ggX11_writeText_J0_charAt_5068e
set_option maxRecDepth 20000 in
theorem ggX11_writeText_X11_writeLetter : GoodIn wsX11_writeText wsX11_writeLetter := goodIn_r _ [54, 55, 56, 57, 58, 59, 60, 61, 62, 63, 64, 65, 66, 67, 68, 69, 70, 71] rfl (by decide +kernel)
set_option maxRecDepth 20000 in
theorem gX11_writeText_X11_writeLetter : GoodIn wsX11_writeText (wsV RX11 324 RX11 yX11_writeLetter wsX11_writeLetter) := goodIn_app (goodIn_of _ (by decide +kernel)) ggX11_writeText_X11_writeLetter
set_option maxHeartbeats 4000000 in
set_option maxRecDepth 100000 in
theorem s_X11_writeText_0 (l : Launch) (D : va_G) (ca : Nat → ClassId) (ad : Nat → Nat) (wt : Nat) (sd : Nat → Nat) (sz : Nat) (h0 : Nat) (h0_tape : Nat) (h0_law : Nat) (h0_standing : Nat) (h0_saying : Nat) (h0_courtReader : Nat) (h0_bookReader : Nat) (h0_sentenceReader : Nat) (h0_bench : Nat) (h0_whatIf : Nat) (h0_history : Nat) (h0_images : Nat) (h0_latest : Nat) (h0_latestBook : Nat) (h0_latestRoll : Nat) (h0_rollLength : Int32) (F_h0_latestRoll : Nat → Int32) (i_h0_rollLength : rg 0 40 h0_rollLength) : tMet l yX11_writeText wsX11_writeText ({ frames := 4, cells := 0, slots := 0, locals := 85 } : Room) [.ref h0, .ref (sd 0)] D ca ad wt sd sz [(h0, .inr (10, [.ref h0_tape, .ref h0_law, .ref h0_standing, .ref h0_saying, .ref h0_courtReader, .ref h0_bookReader, .ref h0_sentenceReader, .ref h0_bench, .ref h0_whatIf, .ref h0_history, .ref h0_images, .ref h0_latest, .ref h0_latestBook, .ref h0_latestRoll, .int h0_rollLength])), (aC ca h0_latestRoll 40 F_h0_latestRoll)] (oQv D (fun (u : Int32 × (Nat → Int32)) => (rg 0 40 u.1) ∧ (rl 0 h0_rollLength u.1)) (fun (u : Int32 × (Nat → Int32)) => [(h0, .inr (10, [.ref h0_tape, .ref h0_law, .ref h0_standing, .ref h0_saying, .ref h0_courtReader, .ref h0_bookReader, .ref h0_sentenceReader, .ref h0_bench, .ref h0_whatIf, .ref h0_history, .ref h0_images, .ref h0_latest, .ref h0_latestBook, .ref h0_latestRoll, .int u.1])), (aC ca h0_latestRoll 40 u.2)])) 0 0 := by
  refine tM (cc := cX11_writeText) (maxL := 3) (ret := none) (by decide) rfl (Nat.le_of_ble_eq_true rfl) [(0, .ref h0), (1, .ref (sd 0))] rfl ?_
  intro p e s m below meth c A H locs ls hx hb hr hml hts hown hlocks hin hK hP hD hA hS hl hZ hT
  have hown : s.vm.findClass RX11 = some m.cls := hown
  have hE := hZ.2.2.2.2.2.1
  have J2_54 : ∀ (n : Nat) (y2_0 : Int32) (y2_1 : Int32) (f2_2 : Nat → Int32), True → rg 0 39 y2_0 → rg 0 40 y2_1 → rl 0 h0_rollLength y2_1 → 39 < y2_0.toInt + (n : Int) → ∀ (H : Heap) (locs : List Loc) (ls : Array Slot), va_P D vwCl [(h0, .inr (10, [.ref h0_tape, .ref h0_law, .ref h0_standing, .ref h0_saying, .ref h0_courtReader, .ref h0_bookReader, .ref h0_sentenceReader, .ref h0_bench, .ref h0_whatIf, .ref h0_history, .ref h0_images, .ref h0_latest, .ref h0_latestBook, .ref h0_latestRoll, .int y2_1])), (aC ca h0_latestRoll 40 f2_2)] H → va_D A [(h0, .inr (10, [.ref h0_tape, .ref h0_law, .ref h0_standing, .ref h0_saying, .ref h0_courtReader, .ref h0_bookReader, .ref h0_sentenceReader, .ref h0_bench, .ref h0_whatIf, .ref h0_history, .ref h0_images, .ref h0_latest, .ref h0_latestBook, .ref h0_latestRoll, .int y2_1])), (aC ca h0_latestRoll 40 f2_2)] → va_S A s.heap H locs → lv_has ls 3 [(0, .ref h0), (1, .ref (sd 0)), (2, .int y2_0)] → W p l e ({ frames := 4, cells := 0, slots := 0, locals := 85 } : Room) s m ([.ref h0, .ref (sd 0)] : List Value).toArray below meth c H locs 0 0 (MQ below ((oQv D (fun (u : Int32 × (Nat → Int32)) => (rg 0 40 u.1) ∧ (rl 0 h0_rollLength u.1)) (fun (u : Int32 × (Nat → Int32)) => [(h0, .inr (10, [.ref h0_tape, .ref h0_law, .ref h0_standing, .ref h0_saying, .ref h0_courtReader, .ref h0_bookReader, .ref h0_sentenceReader, .ref h0_bench, .ref h0_whatIf, .ref h0_history, .ref h0_images, .ref h0_latest, .ref h0_latestBook, .ref h0_latestRoll, .int u.1])), (aC ca h0_latestRoll 40 u.2)])) A) ([.ref h0, .ref (sd 0)] : List Value).toArray s 0 0 A) (F0 m 2 ls []) := by
    intro n
    induction n with
    | zero => intro y2_0 y2_1 f2_2 _ hy2_0 hy2_1 py2_1_h0_rollLength hn; exact absurd hn (by have q9 := hy2_0.2; omega)
    | succ n ih =>
      intro y2_0 y2_1 f2_2 _ hy2_0 hy2_1 py2_1_h0_rollLength hn H locs ls hP hD hS hl
      refine lv_iload_n hx hb dX11_writeText_2 rfl (lv_at hl 2 rfl) ?_
      refine lv_aload_n hx hb dX11_writeText_3 rfl (lv_at hl 1 rfl) ?_
      refine oC_i (Wc := []) (Wr := [(h0, .inr (10, [.ref h0_tape, .ref h0_law, .ref h0_standing, .ref h0_saying, .ref h0_courtReader, .ref h0_bookReader, .ref h0_sentenceReader, .ref h0_bench, .ref h0_whatIf, .ref h0_history, .ref h0_images, .ref h0_latest, .ref h0_latestBook, .ref h0_latestRoll, .int y2_1])), (aC ca h0_latestRoll 40 f2_2)]) (va_runV (As := []) (rest := [.int y2_0]) ⟨hx, hb, hml, hown, hts⟩ (s_length_0 l D ca ad wt sd H.size ) (cwV 0 hts gX11_writeText_J0_length_8abf5 rfl rfl rfl (by decide +kernel) ⟨Nat.le_of_ble_eq_true rfl, Nat.le_of_ble_eq_true rfl⟩) (tPK 0 (by decide) hT hZ hS hA hK hP hD [] rfl (by decide)) rfl rfl hl.1 rfl (lv_room (Nat.le_of_ble_eq_true rfl)) dX11_writeText_4 ⟨Nat.le_of_ble_eq_true rfl, Nat.le_of_ble_eq_true rfl⟩) hP hD hS hA [] [0, 1] rfl rfl (by decide) (by decide) (fun r_77 u H locs w_78 hP hD hS => ?_)
      obtain ⟨⟩ := u
      have hP : va_P D vwCl [(h0, .inr (10, [.ref h0_tape, .ref h0_law, .ref h0_standing, .ref h0_saying, .ref h0_courtReader, .ref h0_bookReader, .ref h0_sentenceReader, .ref h0_bench, .ref h0_whatIf, .ref h0_history, .ref h0_images, .ref h0_latest, .ref h0_latestBook, .ref h0_latestRoll, .int y2_1])), (aC ca h0_latestRoll 40 f2_2)] H := hP
      have hD : va_D A [(h0, .inr (10, [.ref h0_tape, .ref h0_law, .ref h0_standing, .ref h0_saying, .ref h0_courtReader, .ref h0_bookReader, .ref h0_sentenceReader, .ref h0_bench, .ref h0_whatIf, .ref h0_history, .ref h0_images, .ref h0_latest, .ref h0_latestBook, .ref h0_latestRoll, .int y2_1])), (aC ca h0_latestRoll 40 f2_2)] := hD
      try dsimp only at w_78
      have h_79 := w_78
      subst h_79
      refine lv_icmp_ge (tgt := 25) hx hb dX11_writeText_7 (by decide) (fun c_80 => ?_) (fun c_80 => ?_)
      · skip
        have o_81 : rl 0 8 y2_0 := rl_le c_80
        have h_82 : rg 8 39 y2_0 := rl_y o_81 (⟨by decide, by decide⟩ : rg 8 8 (8 : Int32)) hy2_0 (by decide) (by decide)
        exact oE_v hx hb hr hlocks hP hD hS (y2_1, f2_2) [0, 1] rfl (by decide) ⟨hy2_1, (show rl 0 h0_rollLength y2_1 from rlm (by have q0 := rle py2_1_h0_rollLength; omega))⟩ (Nat.le_of_ble_eq_true rfl) (Nat.le_of_ble_eq_true rfl) dX11_writeText_25
      · skip
        have o_83 : rl 1 y2_0 8 := rl_nle c_80
        have h_84 : rg 0 7 y2_0 := rl_x o_83 hy2_0 (⟨by decide, by decide⟩ : rg 8 8 (8 : Int32)) (by decide) (by decide)
        refine lv_aload_n hx hb dX11_writeText_10 rfl (lv_at hl 0 rfl) ?_
        refine lv_aload_n hx hb dX11_writeText_11 rfl (lv_at hl 1 rfl) ?_
        refine lv_iload_n hx hb dX11_writeText_12 rfl (lv_at hl 2 rfl) ?_
        refine oC_i (Wc := []) (Wr := [(h0, .inr (10, [.ref h0_tape, .ref h0_law, .ref h0_standing, .ref h0_saying, .ref h0_courtReader, .ref h0_bookReader, .ref h0_sentenceReader, .ref h0_bench, .ref h0_whatIf, .ref h0_history, .ref h0_images, .ref h0_latest, .ref h0_latestBook, .ref h0_latestRoll, .int y2_1])), (aC ca h0_latestRoll 40 f2_2)]) (va_runV (As := [.int y2_0]) (rest := [.ref h0]) ⟨hx, hb, hml, hown, hts⟩ (s_charAt_0 l D ca ad wt sd H.size y2_0 h_84) (cwV 1 hts gX11_writeText_J0_charAt_5068e rfl rfl rfl (by decide +kernel) ⟨Nat.le_of_ble_eq_true rfl, Nat.le_of_ble_eq_true rfl⟩) (tPK 0 (by decide) hT hZ hS hA hK hP hD [] rfl (by decide)) rfl rfl hl.1 rfl (lv_room (Nat.le_of_ble_eq_true rfl)) dX11_writeText_13 ⟨Nat.le_of_ble_eq_true rfl, Nat.le_of_ble_eq_true rfl⟩) hP hD hS hA [] [0, 1] rfl rfl (by decide) (by decide) (fun r_85 u H locs w_86 hP hD hS => ?_)
        obtain ⟨⟩ := u
        have hP : va_P D vwCl [(h0, .inr (10, [.ref h0_tape, .ref h0_law, .ref h0_standing, .ref h0_saying, .ref h0_courtReader, .ref h0_bookReader, .ref h0_sentenceReader, .ref h0_bench, .ref h0_whatIf, .ref h0_history, .ref h0_images, .ref h0_latest, .ref h0_latestBook, .ref h0_latestRoll, .int y2_1])), (aC ca h0_latestRoll 40 f2_2)] H := hP
        have hD : va_D A [(h0, .inr (10, [.ref h0_tape, .ref h0_law, .ref h0_standing, .ref h0_saying, .ref h0_courtReader, .ref h0_bookReader, .ref h0_sentenceReader, .ref h0_bench, .ref h0_whatIf, .ref h0_history, .ref h0_images, .ref h0_latest, .ref h0_latestBook, .ref h0_latestRoll, .int y2_1])), (aC ca h0_latestRoll 40 f2_2)] := hD
        try dsimp only at w_86
        obtain ⟨h_87, h_88⟩ := w_86
        refine oC_v (Wc := [(h0, .inr (10, [.ref h0_tape, .ref h0_law, .ref h0_standing, .ref h0_saying, .ref h0_courtReader, .ref h0_bookReader, .ref h0_sentenceReader, .ref h0_bench, .ref h0_whatIf, .ref h0_history, .ref h0_images, .ref h0_latest, .ref h0_latestBook, .ref h0_latestRoll, .int y2_1])), (aC ca h0_latestRoll 40 f2_2)]) (Wr := []) (va_runV (As := [.int r_85]) (rest := []) ⟨hx, hb, hml, hown, hts⟩ (s_X11_writeLetter l D ca H.size h0 r_85 h0_tape h0_law h0_standing h0_saying h0_courtReader h0_bookReader h0_sentenceReader h0_bench h0_whatIf h0_history h0_images h0_latest h0_latestBook h0_latestRoll y2_1 f2_2 hy2_1) (cwV 1 hts gX11_writeText_X11_writeLetter rfl rfl rfl (by decide +kernel) ⟨Nat.le_of_ble_eq_true rfl, Nat.le_of_ble_eq_true rfl⟩) (oPV (C := RX11) hK hP hD [0, 1] rfl (by decide) 0 rfl (ci := 10) rfl rfl) rfl rfl hl.1 rfl (lv_room (Nat.le_of_ble_eq_true rfl)) dX11_writeText_16 ⟨Nat.le_of_ble_eq_true rfl, Nat.le_of_ble_eq_true rfl⟩) hP hD hS hA [0, 1] [] rfl rfl (by decide) (by decide) (fun u H locs w_90 hP hD hS => ?_)
        obtain ⟨u_91, u_92⟩ := u
        have hP : va_P D vwCl [(h0, .inr (10, [.ref h0_tape, .ref h0_law, .ref h0_standing, .ref h0_saying, .ref h0_courtReader, .ref h0_bookReader, .ref h0_sentenceReader, .ref h0_bench, .ref h0_whatIf, .ref h0_history, .ref h0_images, .ref h0_latest, .ref h0_latestBook, .ref h0_latestRoll, .int u_91])), (aC ca h0_latestRoll 40 u_92)] H := hP
        have hD : va_D A [(h0, .inr (10, [.ref h0_tape, .ref h0_law, .ref h0_standing, .ref h0_saying, .ref h0_courtReader, .ref h0_bookReader, .ref h0_sentenceReader, .ref h0_bench, .ref h0_whatIf, .ref h0_history, .ref h0_images, .ref h0_latest, .ref h0_latestBook, .ref h0_latestRoll, .int u_91])), (aC ca h0_latestRoll 40 u_92)] := hD
        try dsimp only at w_90
        obtain ⟨h_93, h_94, h_95⟩ := w_90
        obtain ⟨x_96, ex_96⟩ : ∃ y : Int32, y = y2_0 + 1 := ⟨_, rfl⟩
        have h_97 : rg 1 8 x_96 := by rw [ex_96]; exact rg_add h_84 (⟨by decide, by decide⟩ : rg 1 1 (1 : Int32)) (by decide) (by decide) (by decide) (by decide)
        have l_98 : lq x_96.toInt (y2_0.toInt + 1) := lqm (by rw [ex_96]; have q := tadd h_84 (⟨by decide, by decide⟩ : rg 1 1 (1 : Int32)) (by decide) (by decide); have r1 := lqe (lqm (by decide) : lq (1 : Int32).toInt 1); omega)
        refine lv_iinc (v := x_96) (lv' := [(2, .int x_96), (0, .ref h0), (1, .ref (sd 0))]) hx hb dX11_writeText_19 hl (k := 2) rfl (by rw [ex_96]; rfl) (by decide) rfl (fun ls hl => ?_)
        refine lv_goto (tgt := 2) hx hb dX11_writeText_22 (by decide) ?_
        exact ih x_96 u_91 u_92 trivial (rgw (lo := 0) (hi := 39) h_97 (by decide) (by decide)) (rgw (lo := 0) (hi := 40) h_93 (by decide) (by decide)) (rlm (by have q0 := rle py2_1_h0_rollLength; have q1 := rle h_94; omega)) (by have q0 := lqe l_98; omega) H locs ls (oPsub hP [0, 1] rfl) (hD.sub [0, 1] (by decide) rfl) hS (lv_sub hl [1, 2, 0] rfl)
  refine lv_iconst (v := 0) hx hb dX11_writeText_0 (by decide) ?_
  refine lv_istore_n (lv' := [(2, .int 0), (0, .ref h0), (1, .ref (sd 0))]) hx hb dX11_writeText_1 rfl hl (by decide) rfl (fun ls hl => ?_)
  exact J2_54 40 0 h0_rollLength F_h0_latestRoll trivial (⟨by decide, by decide⟩ : rg 0 39 (0 : Int32)) i_h0_rollLength (rlm (by omega)) (by have q0 := (⟨by decide, by decide⟩ : rg 0 0 (0 : Int32)).1; omega) H locs ls (oPsub hP [0, 1] rfl) (hD.sub [0, 1] (by decide) rfl) hS (lv_sub hl [1, 2, 0] rfl)
set_option maxHeartbeats 4000000 in
set_option maxRecDepth 100000 in
theorem s_charAtJ1_1 (l : Launch) (D : va_G) (ca : Nat → ClassId) (ad : Nat → Nat) (wt : Nat) (sd : Nat → Nat) (sz : Nat) (a2 : Int32) (i_a2 : rg 0 11 a2) : tMet l yJ1_charAt_3b067 wsJ1_charAt_3b067 ({ frames := 2, cells := 0, slots := 0, locals := 43 } : Room) [.ref (sd 5), .int a2] D ca ad wt sd sz [] (oQi D (fun (r : Int32) (u : Unit) => (rl 0 a2 a2) ∧ (narrow .char (.int r) = .int r)) (fun (u : Unit) => [])) 0 0 := by
  refine tM (cc := cJ1_charAt_3b067) (maxL := 2) (ret := (some .char)) (by decide) rfl (Nat.le_of_ble_eq_true rfl) [(0, .ref (sd 5)), (1, .int a2)] rfl ?_
  intro p e s m below meth c A H locs ls hx hb hr hml hts hown hlocks hin hK hP hD hA hS hl hZ hT
  have hown : s.vm.findClass RJ1 = some m.cls := hown
  have hE := hZ.2.2.2.2.2.1
  refine lv_iload_n hx hb dJ1_charAt_3b067_0 rfl (lv_at hl 1 rfl) ?_
  refine lv_aload_n hx hb dJ1_charAt_3b067_1 rfl (lv_at hl 0 rfl) ?_
  refine va_tlen hx hb (hT.1.1 1 (by decide)).2.2.2 hS (v := 12) (by decide) dJ1_charAt_3b067_2 ?_
  refine oC_v (Wc := []) (Wr := []) (va_runS (As := [.int a2, .int 12]) (rest := []) ⟨hx, hb, hml, hown, hts⟩ (s_checkIndexJ0 l D ca ad wt sd H.size a2 12 (rgw (lo := 0) (hi := 13) i_a2 (by decide) (by decide)) (rlm (by have q0 := (show (12 : Int32).toInt = 12 by decide); have q1 := (i_a2).1; have q2 := (i_a2).2; omega))) (va_cwS 2 hts gJ1_charAt_3b067_J0_checkIndex_df160 rfl rfl rfl (by decide +kernel) ⟨Nat.le_of_ble_eq_true rfl, Nat.le_of_ble_eq_true rfl⟩) (tPS hT hZ hS hA hK hP hD [] rfl (by decide)) rfl rfl hl.1 rfl (lv_room (Nat.le_of_ble_eq_true rfl)) dJ1_charAt_3b067_3 ⟨Nat.le_of_ble_eq_true rfl, Nat.le_of_ble_eq_true rfl⟩) hP hD hS hA [] [] rfl rfl (by decide) (by decide) (fun u H locs w_10 hP hD hS => ?_)
  obtain ⟨⟩ := u
  have hP : va_P D vwCl [] H := hP
  have hD : va_D A [] := hD
  try dsimp only at w_10
  obtain ⟨h_11, h_12⟩ := w_10
  refine lv_aload_n hx hb dJ1_charAt_3b067_6 rfl (lv_at hl 0 rfl) ?_
  refine lv_iload_n hx hb dJ1_charAt_3b067_7 rfl (lv_at hl 1 rfl) ?_
  refine va_tb hx hb (hT.1.1 1 (by decide)).2.2.2 hS (rg_in i_a2 (by decide) (by decide)) rfl dJ1_charAt_3b067_8 ?_
  refine lv_topi (fun x_13 ex_13 => ?_)
  refine lv_sipush (v := 255) hx hb dJ1_charAt_3b067_9 (by decide) ?_
  refine lv_iand hx hb dJ1_charAt_3b067_12 ?_
  refine lv_topi (fun x_14 ex_14 => ?_)
  have h_15 : rg 0 255 x_14 := by rw [ex_14]; exact rg_and' (⟨by decide, by decide⟩ : rg 255 255 (255 : Int32)) (by decide) (by decide) (by decide)
  refine lv_i2c hx hb dJ1_charAt_3b067_13 rfl ?_
  refine lv_topi (fun x_16 ex_16 => ?_)
  exact oE_i hx hb hr (nar_c ex_16) hlocks hP hD hS () [] rfl (by decide) ⟨(show rl 0 a2 a2 from rlm (by omega)), (nar_c ex_16)⟩ (Nat.le_of_ble_eq_true rfl) (Nat.le_of_ble_eq_true rfl) dJ1_charAt_3b067_14
set_option maxHeartbeats 4000000 in
set_option maxRecDepth 100000 in
theorem s_charAt_1 (l : Launch) (D : va_G) (ca : Nat → ClassId) (ad : Nat → Nat) (wt : Nat) (sd : Nat → Nat) (sz : Nat) (a1 : Int32) (i_a1 : rg 0 11 a1) : tMet l yJ0_charAt_5068e wsJ0_charAt_5068e ({ frames := 3, cells := 0, slots := 0, locals := 64 } : Room) [.ref (sd 1), .int a1] D ca ad wt sd sz [] (oQi D (fun (r : Int32) (u : Unit) => (rl 0 a1 a1) ∧ (narrow .char (.int r) = .int r)) (fun (u : Unit) => [])) 0 0 := by
  refine tM (cc := cJ0_charAt_5068e) (maxL := 2) (ret := (some .char)) (by decide) rfl (Nat.le_of_ble_eq_true rfl) [(0, .ref (sd 1)), (1, .int a1)] rfl ?_
  intro p e s m below meth c A H locs ls hx hb hr hml hts hown hlocks hin hK hP hD hA hS hl hZ hT
  have hown : s.vm.findClass RJ0 = some m.cls := hown
  have hE := hZ.2.2.2.2.2.1
  have k1 := hts (.fieldLink RJ0 9 "java/lang/String" "value" "[B") (by decide +kernel)
  refine lv_aload_n hx hb dJ0_charAt_5068e_0 rfl (lv_at hl 0 rfl) ?_
  refine oC_i (Wc := []) (Wr := []) (va_runV (As := []) (rest := []) ⟨hx, hb, hml, hown, hts⟩ (s_isLatin1_1 l D ca ad wt sd H.size ) (cwV 0 hts gJ0_charAt_5068e_J0_isLatin1_aae02 rfl rfl rfl (by decide +kernel) ⟨Nat.le_of_ble_eq_true rfl, Nat.le_of_ble_eq_true rfl⟩) (tPK 1 (by decide) hT hZ hS hA hK hP hD [] rfl (by decide)) rfl rfl hl.1 rfl (lv_room (Nat.le_of_ble_eq_true rfl)) dJ0_charAt_5068e_1 ⟨Nat.le_of_ble_eq_true rfl, Nat.le_of_ble_eq_true rfl⟩) hP hD hS hA [] [] rfl rfl (by decide) (by decide) (fun r_8 u H locs w_9 hP hD hS => ?_)
  obtain ⟨⟩ := u
  have hP : va_P D vwCl [] H := hP
  have hD : va_D A [] := hD
  try dsimp only at w_9
  have h_10 := w_9
  subst h_10
  refine lv_if_eq (tgt := 16) hx hb dJ0_charAt_5068e_4 (by decide) (fun c => absurd c (by decide)) (fun _ => ?_)
  refine lv_aload_n hx hb dJ0_charAt_5068e_7 rfl (lv_at hl 0 rfl) ?_
  refine vk_getf hx hb (hT.1.1 1 (by decide)).2.2.1 hS hown k1 (fun _ h9 => h9) dJ0_charAt_5068e_8 ?_
  refine lv_iload_n hx hb dJ0_charAt_5068e_11 rfl (lv_at hl 1 rfl) ?_
  refine oC_i (Wc := []) (Wr := []) (va_runS (As := [.ref (sd 5), .int a1]) (rest := []) ⟨hx, hb, hml, hown, hts⟩ (s_charAtJ1_1 l D ca ad wt sd H.size a1 i_a1) (va_cwS 2 hts gJ0_charAt_5068e_J1_charAt_3b067 rfl rfl rfl (by decide +kernel) ⟨Nat.le_of_ble_eq_true rfl, Nat.le_of_ble_eq_true rfl⟩) (tPS hT hZ hS hA hK hP hD [] rfl (by decide)) rfl rfl hl.1 rfl (lv_room (Nat.le_of_ble_eq_true rfl)) dJ0_charAt_5068e_12 ⟨Nat.le_of_ble_eq_true rfl, Nat.le_of_ble_eq_true rfl⟩) hP hD hS hA [] [] rfl rfl (by decide) (by decide) (fun r_11 u H locs w_12 hP hD hS => ?_)
  obtain ⟨⟩ := u
  have hP : va_P D vwCl [] H := hP
  have hD : va_D A [] := hD
  try dsimp only at w_12
  obtain ⟨h_13, h_14⟩ := w_12
  exact oE_i hx hb hr h_14 hlocks hP hD hS () [] rfl (by decide) ⟨(show rl 0 a1 a1 from rlm (by omega)), h_14⟩ (Nat.le_of_ble_eq_true rfl) (Nat.le_of_ble_eq_true rfl) dJ0_charAt_5068e_15
set_option maxHeartbeats 4000000 in
set_option maxRecDepth 100000 in
theorem s_X11_writeText_1 (l : Launch) (D : va_G) (ca : Nat → ClassId) (ad : Nat → Nat) (wt : Nat) (sd : Nat → Nat) (sz : Nat) (h0 : Nat) (h0_tape : Nat) (h0_law : Nat) (h0_standing : Nat) (h0_saying : Nat) (h0_courtReader : Nat) (h0_bookReader : Nat) (h0_sentenceReader : Nat) (h0_bench : Nat) (h0_whatIf : Nat) (h0_history : Nat) (h0_images : Nat) (h0_latest : Nat) (h0_latestBook : Nat) (h0_latestRoll : Nat) (h0_rollLength : Int32) (F_h0_latestRoll : Nat → Int32) (i_h0_rollLength : rg 0 40 h0_rollLength) : tMet l yX11_writeText wsX11_writeText ({ frames := 4, cells := 0, slots := 0, locals := 85 } : Room) [.ref h0, .ref (sd 1)] D ca ad wt sd sz [(h0, .inr (10, [.ref h0_tape, .ref h0_law, .ref h0_standing, .ref h0_saying, .ref h0_courtReader, .ref h0_bookReader, .ref h0_sentenceReader, .ref h0_bench, .ref h0_whatIf, .ref h0_history, .ref h0_images, .ref h0_latest, .ref h0_latestBook, .ref h0_latestRoll, .int h0_rollLength])), (aC ca h0_latestRoll 40 F_h0_latestRoll)] (oQv D (fun (u : Int32 × (Nat → Int32)) => (rg 0 40 u.1) ∧ (rl 0 h0_rollLength u.1)) (fun (u : Int32 × (Nat → Int32)) => [(h0, .inr (10, [.ref h0_tape, .ref h0_law, .ref h0_standing, .ref h0_saying, .ref h0_courtReader, .ref h0_bookReader, .ref h0_sentenceReader, .ref h0_bench, .ref h0_whatIf, .ref h0_history, .ref h0_images, .ref h0_latest, .ref h0_latestBook, .ref h0_latestRoll, .int u.1])), (aC ca h0_latestRoll 40 u.2)])) 0 0 := by
  refine tM (cc := cX11_writeText) (maxL := 3) (ret := none) (by decide) rfl (Nat.le_of_ble_eq_true rfl) [(0, .ref h0), (1, .ref (sd 1))] rfl ?_
  intro p e s m below meth c A H locs ls hx hb hr hml hts hown hlocks hin hK hP hD hA hS hl hZ hT
  have hown : s.vm.findClass RX11 = some m.cls := hown
  have hE := hZ.2.2.2.2.2.1
  have J2_54 : ∀ (n : Nat) (y2_0 : Int32) (y2_1 : Int32) (f2_2 : Nat → Int32), True → rg 0 39 y2_0 → rg 0 40 y2_1 → rl 0 h0_rollLength y2_1 → 39 < y2_0.toInt + (n : Int) → ∀ (H : Heap) (locs : List Loc) (ls : Array Slot), va_P D vwCl [(h0, .inr (10, [.ref h0_tape, .ref h0_law, .ref h0_standing, .ref h0_saying, .ref h0_courtReader, .ref h0_bookReader, .ref h0_sentenceReader, .ref h0_bench, .ref h0_whatIf, .ref h0_history, .ref h0_images, .ref h0_latest, .ref h0_latestBook, .ref h0_latestRoll, .int y2_1])), (aC ca h0_latestRoll 40 f2_2)] H → va_D A [(h0, .inr (10, [.ref h0_tape, .ref h0_law, .ref h0_standing, .ref h0_saying, .ref h0_courtReader, .ref h0_bookReader, .ref h0_sentenceReader, .ref h0_bench, .ref h0_whatIf, .ref h0_history, .ref h0_images, .ref h0_latest, .ref h0_latestBook, .ref h0_latestRoll, .int y2_1])), (aC ca h0_latestRoll 40 f2_2)] → va_S A s.heap H locs → lv_has ls 3 [(0, .ref h0), (1, .ref (sd 1)), (2, .int y2_0)] → W p l e ({ frames := 4, cells := 0, slots := 0, locals := 85 } : Room) s m ([.ref h0, .ref (sd 1)] : List Value).toArray below meth c H locs 0 0 (MQ below ((oQv D (fun (u : Int32 × (Nat → Int32)) => (rg 0 40 u.1) ∧ (rl 0 h0_rollLength u.1)) (fun (u : Int32 × (Nat → Int32)) => [(h0, .inr (10, [.ref h0_tape, .ref h0_law, .ref h0_standing, .ref h0_saying, .ref h0_courtReader, .ref h0_bookReader, .ref h0_sentenceReader, .ref h0_bench, .ref h0_whatIf, .ref h0_history, .ref h0_images, .ref h0_latest, .ref h0_latestBook, .ref h0_latestRoll, .int u.1])), (aC ca h0_latestRoll 40 u.2)])) A) ([.ref h0, .ref (sd 1)] : List Value).toArray s 0 0 A) (F0 m 2 ls []) := by
    intro n
    induction n with
    | zero => intro y2_0 y2_1 f2_2 _ hy2_0 hy2_1 py2_1_h0_rollLength hn; exact absurd hn (by have q9 := hy2_0.2; omega)
    | succ n ih =>
      intro y2_0 y2_1 f2_2 _ hy2_0 hy2_1 py2_1_h0_rollLength hn H locs ls hP hD hS hl
      refine lv_iload_n hx hb dX11_writeText_2 rfl (lv_at hl 2 rfl) ?_
      refine lv_aload_n hx hb dX11_writeText_3 rfl (lv_at hl 1 rfl) ?_
      refine oC_i (Wc := []) (Wr := [(h0, .inr (10, [.ref h0_tape, .ref h0_law, .ref h0_standing, .ref h0_saying, .ref h0_courtReader, .ref h0_bookReader, .ref h0_sentenceReader, .ref h0_bench, .ref h0_whatIf, .ref h0_history, .ref h0_images, .ref h0_latest, .ref h0_latestBook, .ref h0_latestRoll, .int y2_1])), (aC ca h0_latestRoll 40 f2_2)]) (va_runV (As := []) (rest := [.int y2_0]) ⟨hx, hb, hml, hown, hts⟩ (s_length_1 l D ca ad wt sd H.size ) (cwV 0 hts gX11_writeText_J0_length_8abf5 rfl rfl rfl (by decide +kernel) ⟨Nat.le_of_ble_eq_true rfl, Nat.le_of_ble_eq_true rfl⟩) (tPK 1 (by decide) hT hZ hS hA hK hP hD [] rfl (by decide)) rfl rfl hl.1 rfl (lv_room (Nat.le_of_ble_eq_true rfl)) dX11_writeText_4 ⟨Nat.le_of_ble_eq_true rfl, Nat.le_of_ble_eq_true rfl⟩) hP hD hS hA [] [0, 1] rfl rfl (by decide) (by decide) (fun r_77 u H locs w_78 hP hD hS => ?_)
      obtain ⟨⟩ := u
      have hP : va_P D vwCl [(h0, .inr (10, [.ref h0_tape, .ref h0_law, .ref h0_standing, .ref h0_saying, .ref h0_courtReader, .ref h0_bookReader, .ref h0_sentenceReader, .ref h0_bench, .ref h0_whatIf, .ref h0_history, .ref h0_images, .ref h0_latest, .ref h0_latestBook, .ref h0_latestRoll, .int y2_1])), (aC ca h0_latestRoll 40 f2_2)] H := hP
      have hD : va_D A [(h0, .inr (10, [.ref h0_tape, .ref h0_law, .ref h0_standing, .ref h0_saying, .ref h0_courtReader, .ref h0_bookReader, .ref h0_sentenceReader, .ref h0_bench, .ref h0_whatIf, .ref h0_history, .ref h0_images, .ref h0_latest, .ref h0_latestBook, .ref h0_latestRoll, .int y2_1])), (aC ca h0_latestRoll 40 f2_2)] := hD
      try dsimp only at w_78
      have h_79 := w_78
      subst h_79
      refine lv_icmp_ge (tgt := 25) hx hb dX11_writeText_7 (by decide) (fun c_80 => ?_) (fun c_80 => ?_)
      · skip
        have o_81 : rl 0 12 y2_0 := rl_le c_80
        have h_82 : rg 12 39 y2_0 := rl_y o_81 (⟨by decide, by decide⟩ : rg 12 12 (12 : Int32)) hy2_0 (by decide) (by decide)
        exact oE_v hx hb hr hlocks hP hD hS (y2_1, f2_2) [0, 1] rfl (by decide) ⟨hy2_1, (show rl 0 h0_rollLength y2_1 from rlm (by have q0 := rle py2_1_h0_rollLength; omega))⟩ (Nat.le_of_ble_eq_true rfl) (Nat.le_of_ble_eq_true rfl) dX11_writeText_25
      · skip
        have o_83 : rl 1 y2_0 12 := rl_nle c_80
        have h_84 : rg 0 11 y2_0 := rl_x o_83 hy2_0 (⟨by decide, by decide⟩ : rg 12 12 (12 : Int32)) (by decide) (by decide)
        refine lv_aload_n hx hb dX11_writeText_10 rfl (lv_at hl 0 rfl) ?_
        refine lv_aload_n hx hb dX11_writeText_11 rfl (lv_at hl 1 rfl) ?_
        refine lv_iload_n hx hb dX11_writeText_12 rfl (lv_at hl 2 rfl) ?_
        refine oC_i (Wc := []) (Wr := [(h0, .inr (10, [.ref h0_tape, .ref h0_law, .ref h0_standing, .ref h0_saying, .ref h0_courtReader, .ref h0_bookReader, .ref h0_sentenceReader, .ref h0_bench, .ref h0_whatIf, .ref h0_history, .ref h0_images, .ref h0_latest, .ref h0_latestBook, .ref h0_latestRoll, .int y2_1])), (aC ca h0_latestRoll 40 f2_2)]) (va_runV (As := [.int y2_0]) (rest := [.ref h0]) ⟨hx, hb, hml, hown, hts⟩ (s_charAt_1 l D ca ad wt sd H.size y2_0 h_84) (cwV 1 hts gX11_writeText_J0_charAt_5068e rfl rfl rfl (by decide +kernel) ⟨Nat.le_of_ble_eq_true rfl, Nat.le_of_ble_eq_true rfl⟩) (tPK 1 (by decide) hT hZ hS hA hK hP hD [] rfl (by decide)) rfl rfl hl.1 rfl (lv_room (Nat.le_of_ble_eq_true rfl)) dX11_writeText_13 ⟨Nat.le_of_ble_eq_true rfl, Nat.le_of_ble_eq_true rfl⟩) hP hD hS hA [] [0, 1] rfl rfl (by decide) (by decide) (fun r_85 u H locs w_86 hP hD hS => ?_)
        obtain ⟨⟩ := u
        have hP : va_P D vwCl [(h0, .inr (10, [.ref h0_tape, .ref h0_law, .ref h0_standing, .ref h0_saying, .ref h0_courtReader, .ref h0_bookReader, .ref h0_sentenceReader, .ref h0_bench, .ref h0_whatIf, .ref h0_history, .ref h0_images, .ref h0_latest, .ref h0_latestBook, .ref h0_latestRoll, .int y2_1])), (aC ca h0_latestRoll 40 f2_2)] H := hP
        have hD : va_D A [(h0, .inr (10, [.ref h0_tape, .ref h0_law, .ref h0_standing, .ref h0_saying, .ref h0_courtReader, .ref h0_bookReader, .ref h0_sentenceReader, .ref h0_bench, .ref h0_whatIf, .ref h0_history, .ref h0_images, .ref h0_latest, .ref h0_latestBook, .ref h0_latestRoll, .int y2_1])), (aC ca h0_latestRoll 40 f2_2)] := hD
        try dsimp only at w_86
        obtain ⟨h_87, h_88⟩ := w_86
        refine oC_v (Wc := [(h0, .inr (10, [.ref h0_tape, .ref h0_law, .ref h0_standing, .ref h0_saying, .ref h0_courtReader, .ref h0_bookReader, .ref h0_sentenceReader, .ref h0_bench, .ref h0_whatIf, .ref h0_history, .ref h0_images, .ref h0_latest, .ref h0_latestBook, .ref h0_latestRoll, .int y2_1])), (aC ca h0_latestRoll 40 f2_2)]) (Wr := []) (va_runV (As := [.int r_85]) (rest := []) ⟨hx, hb, hml, hown, hts⟩ (s_X11_writeLetter l D ca H.size h0 r_85 h0_tape h0_law h0_standing h0_saying h0_courtReader h0_bookReader h0_sentenceReader h0_bench h0_whatIf h0_history h0_images h0_latest h0_latestBook h0_latestRoll y2_1 f2_2 hy2_1) (cwV 1 hts gX11_writeText_X11_writeLetter rfl rfl rfl (by decide +kernel) ⟨Nat.le_of_ble_eq_true rfl, Nat.le_of_ble_eq_true rfl⟩) (oPV (C := RX11) hK hP hD [0, 1] rfl (by decide) 0 rfl (ci := 10) rfl rfl) rfl rfl hl.1 rfl (lv_room (Nat.le_of_ble_eq_true rfl)) dX11_writeText_16 ⟨Nat.le_of_ble_eq_true rfl, Nat.le_of_ble_eq_true rfl⟩) hP hD hS hA [0, 1] [] rfl rfl (by decide) (by decide) (fun u H locs w_90 hP hD hS => ?_)
        obtain ⟨u_91, u_92⟩ := u
        have hP : va_P D vwCl [(h0, .inr (10, [.ref h0_tape, .ref h0_law, .ref h0_standing, .ref h0_saying, .ref h0_courtReader, .ref h0_bookReader, .ref h0_sentenceReader, .ref h0_bench, .ref h0_whatIf, .ref h0_history, .ref h0_images, .ref h0_latest, .ref h0_latestBook, .ref h0_latestRoll, .int u_91])), (aC ca h0_latestRoll 40 u_92)] H := hP
        have hD : va_D A [(h0, .inr (10, [.ref h0_tape, .ref h0_law, .ref h0_standing, .ref h0_saying, .ref h0_courtReader, .ref h0_bookReader, .ref h0_sentenceReader, .ref h0_bench, .ref h0_whatIf, .ref h0_history, .ref h0_images, .ref h0_latest, .ref h0_latestBook, .ref h0_latestRoll, .int u_91])), (aC ca h0_latestRoll 40 u_92)] := hD
        try dsimp only at w_90
        obtain ⟨h_93, h_94, h_95⟩ := w_90
        obtain ⟨x_96, ex_96⟩ : ∃ y : Int32, y = y2_0 + 1 := ⟨_, rfl⟩
        have h_97 : rg 1 12 x_96 := by rw [ex_96]; exact rg_add h_84 (⟨by decide, by decide⟩ : rg 1 1 (1 : Int32)) (by decide) (by decide) (by decide) (by decide)
        have l_98 : lq x_96.toInt (y2_0.toInt + 1) := lqm (by rw [ex_96]; have q := tadd h_84 (⟨by decide, by decide⟩ : rg 1 1 (1 : Int32)) (by decide) (by decide); have r1 := lqe (lqm (by decide) : lq (1 : Int32).toInt 1); omega)
        refine lv_iinc (v := x_96) (lv' := [(2, .int x_96), (0, .ref h0), (1, .ref (sd 1))]) hx hb dX11_writeText_19 hl (k := 2) rfl (by rw [ex_96]; rfl) (by decide) rfl (fun ls hl => ?_)
        refine lv_goto (tgt := 2) hx hb dX11_writeText_22 (by decide) ?_
        exact ih x_96 u_91 u_92 trivial (rgw (lo := 0) (hi := 39) h_97 (by decide) (by decide)) (rgw (lo := 0) (hi := 40) h_93 (by decide) (by decide)) (rlm (by have q0 := rle py2_1_h0_rollLength; have q1 := rle h_94; omega)) (by have q0 := lqe l_98; omega) H locs ls (oPsub hP [0, 1] rfl) (hD.sub [0, 1] (by decide) rfl) hS (lv_sub hl [1, 2, 0] rfl)
  refine lv_iconst (v := 0) hx hb dX11_writeText_0 (by decide) ?_
  refine lv_istore_n (lv' := [(2, .int 0), (0, .ref h0), (1, .ref (sd 1))]) hx hb dX11_writeText_1 rfl hl (by decide) rfl (fun ls hl => ?_)
  exact J2_54 40 0 h0_rollLength F_h0_latestRoll trivial (⟨by decide, by decide⟩ : rg 0 39 (0 : Int32)) i_h0_rollLength (rlm (by omega)) (by have q0 := (⟨by decide, by decide⟩ : rg 0 0 (0 : Int32)).1; omega) H locs ls (oPsub hP [0, 1] rfl) (hD.sub [0, 1] (by decide) rfl) hS (lv_sub hl [1, 2, 0] rfl)
set_option maxHeartbeats 4000000 in
set_option maxRecDepth 100000 in
theorem s_charAtJ1_2 (l : Launch) (D : va_G) (ca : Nat → ClassId) (ad : Nat → Nat) (wt : Nat) (sd : Nat → Nat) (sz : Nat) (a2 : Int32) (i_a2 : rg 0 13 a2) : tMet l yJ1_charAt_3b067 wsJ1_charAt_3b067 ({ frames := 2, cells := 0, slots := 0, locals := 43 } : Room) [.ref (sd 6), .int a2] D ca ad wt sd sz [] (oQi D (fun (r : Int32) (u : Unit) => (rl 0 a2 a2) ∧ (narrow .char (.int r) = .int r)) (fun (u : Unit) => [])) 0 0 := by
  refine tM (cc := cJ1_charAt_3b067) (maxL := 2) (ret := (some .char)) (by decide) rfl (Nat.le_of_ble_eq_true rfl) [(0, .ref (sd 6)), (1, .int a2)] rfl ?_
  intro p e s m below meth c A H locs ls hx hb hr hml hts hown hlocks hin hK hP hD hA hS hl hZ hT
  have hown : s.vm.findClass RJ1 = some m.cls := hown
  have hE := hZ.2.2.2.2.2.1
  refine lv_iload_n hx hb dJ1_charAt_3b067_0 rfl (lv_at hl 1 rfl) ?_
  refine lv_aload_n hx hb dJ1_charAt_3b067_1 rfl (lv_at hl 0 rfl) ?_
  refine va_tlen hx hb (hT.1.1 2 (by decide)).2.2.2 hS (v := 14) (by decide) dJ1_charAt_3b067_2 ?_
  refine oC_v (Wc := []) (Wr := []) (va_runS (As := [.int a2, .int 14]) (rest := []) ⟨hx, hb, hml, hown, hts⟩ (s_checkIndexJ0 l D ca ad wt sd H.size a2 14 i_a2 (rlm (by have q0 := (show (14 : Int32).toInt = 14 by decide); have q1 := (i_a2).1; have q2 := (i_a2).2; omega))) (va_cwS 2 hts gJ1_charAt_3b067_J0_checkIndex_df160 rfl rfl rfl (by decide +kernel) ⟨Nat.le_of_ble_eq_true rfl, Nat.le_of_ble_eq_true rfl⟩) (tPS hT hZ hS hA hK hP hD [] rfl (by decide)) rfl rfl hl.1 rfl (lv_room (Nat.le_of_ble_eq_true rfl)) dJ1_charAt_3b067_3 ⟨Nat.le_of_ble_eq_true rfl, Nat.le_of_ble_eq_true rfl⟩) hP hD hS hA [] [] rfl rfl (by decide) (by decide) (fun u H locs w_10 hP hD hS => ?_)
  obtain ⟨⟩ := u
  have hP : va_P D vwCl [] H := hP
  have hD : va_D A [] := hD
  try dsimp only at w_10
  obtain ⟨h_11, h_12⟩ := w_10
  refine lv_aload_n hx hb dJ1_charAt_3b067_6 rfl (lv_at hl 0 rfl) ?_
  refine lv_iload_n hx hb dJ1_charAt_3b067_7 rfl (lv_at hl 1 rfl) ?_
  refine va_tb hx hb (hT.1.1 2 (by decide)).2.2.2 hS (rg_in i_a2 (by decide) (by decide)) rfl dJ1_charAt_3b067_8 ?_
  refine lv_topi (fun x_13 ex_13 => ?_)
  refine lv_sipush (v := 255) hx hb dJ1_charAt_3b067_9 (by decide) ?_
  refine lv_iand hx hb dJ1_charAt_3b067_12 ?_
  refine lv_topi (fun x_14 ex_14 => ?_)
  have h_15 : rg 0 255 x_14 := by rw [ex_14]; exact rg_and' (⟨by decide, by decide⟩ : rg 255 255 (255 : Int32)) (by decide) (by decide) (by decide)
  refine lv_i2c hx hb dJ1_charAt_3b067_13 rfl ?_
  refine lv_topi (fun x_16 ex_16 => ?_)
  exact oE_i hx hb hr (nar_c ex_16) hlocks hP hD hS () [] rfl (by decide) ⟨(show rl 0 a2 a2 from rlm (by omega)), (nar_c ex_16)⟩ (Nat.le_of_ble_eq_true rfl) (Nat.le_of_ble_eq_true rfl) dJ1_charAt_3b067_14
set_option maxHeartbeats 4000000 in
set_option maxRecDepth 100000 in
theorem s_charAt_2 (l : Launch) (D : va_G) (ca : Nat → ClassId) (ad : Nat → Nat) (wt : Nat) (sd : Nat → Nat) (sz : Nat) (a1 : Int32) (i_a1 : rg 0 13 a1) : tMet l yJ0_charAt_5068e wsJ0_charAt_5068e ({ frames := 3, cells := 0, slots := 0, locals := 64 } : Room) [.ref (sd 2), .int a1] D ca ad wt sd sz [] (oQi D (fun (r : Int32) (u : Unit) => (rl 0 a1 a1) ∧ (narrow .char (.int r) = .int r)) (fun (u : Unit) => [])) 0 0 := by
  refine tM (cc := cJ0_charAt_5068e) (maxL := 2) (ret := (some .char)) (by decide) rfl (Nat.le_of_ble_eq_true rfl) [(0, .ref (sd 2)), (1, .int a1)] rfl ?_
  intro p e s m below meth c A H locs ls hx hb hr hml hts hown hlocks hin hK hP hD hA hS hl hZ hT
  have hown : s.vm.findClass RJ0 = some m.cls := hown
  have hE := hZ.2.2.2.2.2.1
  have k1 := hts (.fieldLink RJ0 9 "java/lang/String" "value" "[B") (by decide +kernel)
  refine lv_aload_n hx hb dJ0_charAt_5068e_0 rfl (lv_at hl 0 rfl) ?_
  refine oC_i (Wc := []) (Wr := []) (va_runV (As := []) (rest := []) ⟨hx, hb, hml, hown, hts⟩ (s_isLatin1_2 l D ca ad wt sd H.size ) (cwV 0 hts gJ0_charAt_5068e_J0_isLatin1_aae02 rfl rfl rfl (by decide +kernel) ⟨Nat.le_of_ble_eq_true rfl, Nat.le_of_ble_eq_true rfl⟩) (tPK 2 (by decide) hT hZ hS hA hK hP hD [] rfl (by decide)) rfl rfl hl.1 rfl (lv_room (Nat.le_of_ble_eq_true rfl)) dJ0_charAt_5068e_1 ⟨Nat.le_of_ble_eq_true rfl, Nat.le_of_ble_eq_true rfl⟩) hP hD hS hA [] [] rfl rfl (by decide) (by decide) (fun r_8 u H locs w_9 hP hD hS => ?_)
  obtain ⟨⟩ := u
  have hP : va_P D vwCl [] H := hP
  have hD : va_D A [] := hD
  try dsimp only at w_9
  have h_10 := w_9
  subst h_10
  refine lv_if_eq (tgt := 16) hx hb dJ0_charAt_5068e_4 (by decide) (fun c => absurd c (by decide)) (fun _ => ?_)
  refine lv_aload_n hx hb dJ0_charAt_5068e_7 rfl (lv_at hl 0 rfl) ?_
  refine vk_getf hx hb (hT.1.1 2 (by decide)).2.2.1 hS hown k1 (fun _ h9 => h9) dJ0_charAt_5068e_8 ?_
  refine lv_iload_n hx hb dJ0_charAt_5068e_11 rfl (lv_at hl 1 rfl) ?_
  refine oC_i (Wc := []) (Wr := []) (va_runS (As := [.ref (sd 6), .int a1]) (rest := []) ⟨hx, hb, hml, hown, hts⟩ (s_charAtJ1_2 l D ca ad wt sd H.size a1 i_a1) (va_cwS 2 hts gJ0_charAt_5068e_J1_charAt_3b067 rfl rfl rfl (by decide +kernel) ⟨Nat.le_of_ble_eq_true rfl, Nat.le_of_ble_eq_true rfl⟩) (tPS hT hZ hS hA hK hP hD [] rfl (by decide)) rfl rfl hl.1 rfl (lv_room (Nat.le_of_ble_eq_true rfl)) dJ0_charAt_5068e_12 ⟨Nat.le_of_ble_eq_true rfl, Nat.le_of_ble_eq_true rfl⟩) hP hD hS hA [] [] rfl rfl (by decide) (by decide) (fun r_11 u H locs w_12 hP hD hS => ?_)
  obtain ⟨⟩ := u
  have hP : va_P D vwCl [] H := hP
  have hD : va_D A [] := hD
  try dsimp only at w_12
  obtain ⟨h_13, h_14⟩ := w_12
  exact oE_i hx hb hr h_14 hlocks hP hD hS () [] rfl (by decide) ⟨(show rl 0 a1 a1 from rlm (by omega)), h_14⟩ (Nat.le_of_ble_eq_true rfl) (Nat.le_of_ble_eq_true rfl) dJ0_charAt_5068e_15
set_option maxHeartbeats 4000000 in
set_option maxRecDepth 100000 in
theorem s_X11_writeText_2 (l : Launch) (D : va_G) (ca : Nat → ClassId) (ad : Nat → Nat) (wt : Nat) (sd : Nat → Nat) (sz : Nat) (h0 : Nat) (h0_tape : Nat) (h0_law : Nat) (h0_standing : Nat) (h0_saying : Nat) (h0_courtReader : Nat) (h0_bookReader : Nat) (h0_sentenceReader : Nat) (h0_bench : Nat) (h0_whatIf : Nat) (h0_history : Nat) (h0_images : Nat) (h0_latest : Nat) (h0_latestBook : Nat) (h0_latestRoll : Nat) (h0_rollLength : Int32) (F_h0_latestRoll : Nat → Int32) (i_h0_rollLength : rg 0 40 h0_rollLength) : tMet l yX11_writeText wsX11_writeText ({ frames := 4, cells := 0, slots := 0, locals := 85 } : Room) [.ref h0, .ref (sd 2)] D ca ad wt sd sz [(h0, .inr (10, [.ref h0_tape, .ref h0_law, .ref h0_standing, .ref h0_saying, .ref h0_courtReader, .ref h0_bookReader, .ref h0_sentenceReader, .ref h0_bench, .ref h0_whatIf, .ref h0_history, .ref h0_images, .ref h0_latest, .ref h0_latestBook, .ref h0_latestRoll, .int h0_rollLength])), (aC ca h0_latestRoll 40 F_h0_latestRoll)] (oQv D (fun (u : Int32 × (Nat → Int32)) => (rg 0 40 u.1) ∧ (rl 0 h0_rollLength u.1)) (fun (u : Int32 × (Nat → Int32)) => [(h0, .inr (10, [.ref h0_tape, .ref h0_law, .ref h0_standing, .ref h0_saying, .ref h0_courtReader, .ref h0_bookReader, .ref h0_sentenceReader, .ref h0_bench, .ref h0_whatIf, .ref h0_history, .ref h0_images, .ref h0_latest, .ref h0_latestBook, .ref h0_latestRoll, .int u.1])), (aC ca h0_latestRoll 40 u.2)])) 0 0 := by
  refine tM (cc := cX11_writeText) (maxL := 3) (ret := none) (by decide) rfl (Nat.le_of_ble_eq_true rfl) [(0, .ref h0), (1, .ref (sd 2))] rfl ?_
  intro p e s m below meth c A H locs ls hx hb hr hml hts hown hlocks hin hK hP hD hA hS hl hZ hT
  have hown : s.vm.findClass RX11 = some m.cls := hown
  have hE := hZ.2.2.2.2.2.1
  have J2_54 : ∀ (n : Nat) (y2_0 : Int32) (y2_1 : Int32) (f2_2 : Nat → Int32), True → rg 0 39 y2_0 → rg 0 40 y2_1 → rl 0 h0_rollLength y2_1 → 39 < y2_0.toInt + (n : Int) → ∀ (H : Heap) (locs : List Loc) (ls : Array Slot), va_P D vwCl [(h0, .inr (10, [.ref h0_tape, .ref h0_law, .ref h0_standing, .ref h0_saying, .ref h0_courtReader, .ref h0_bookReader, .ref h0_sentenceReader, .ref h0_bench, .ref h0_whatIf, .ref h0_history, .ref h0_images, .ref h0_latest, .ref h0_latestBook, .ref h0_latestRoll, .int y2_1])), (aC ca h0_latestRoll 40 f2_2)] H → va_D A [(h0, .inr (10, [.ref h0_tape, .ref h0_law, .ref h0_standing, .ref h0_saying, .ref h0_courtReader, .ref h0_bookReader, .ref h0_sentenceReader, .ref h0_bench, .ref h0_whatIf, .ref h0_history, .ref h0_images, .ref h0_latest, .ref h0_latestBook, .ref h0_latestRoll, .int y2_1])), (aC ca h0_latestRoll 40 f2_2)] → va_S A s.heap H locs → lv_has ls 3 [(0, .ref h0), (1, .ref (sd 2)), (2, .int y2_0)] → W p l e ({ frames := 4, cells := 0, slots := 0, locals := 85 } : Room) s m ([.ref h0, .ref (sd 2)] : List Value).toArray below meth c H locs 0 0 (MQ below ((oQv D (fun (u : Int32 × (Nat → Int32)) => (rg 0 40 u.1) ∧ (rl 0 h0_rollLength u.1)) (fun (u : Int32 × (Nat → Int32)) => [(h0, .inr (10, [.ref h0_tape, .ref h0_law, .ref h0_standing, .ref h0_saying, .ref h0_courtReader, .ref h0_bookReader, .ref h0_sentenceReader, .ref h0_bench, .ref h0_whatIf, .ref h0_history, .ref h0_images, .ref h0_latest, .ref h0_latestBook, .ref h0_latestRoll, .int u.1])), (aC ca h0_latestRoll 40 u.2)])) A) ([.ref h0, .ref (sd 2)] : List Value).toArray s 0 0 A) (F0 m 2 ls []) := by
    intro n
    induction n with
    | zero => intro y2_0 y2_1 f2_2 _ hy2_0 hy2_1 py2_1_h0_rollLength hn; exact absurd hn (by have q9 := hy2_0.2; omega)
    | succ n ih =>
      intro y2_0 y2_1 f2_2 _ hy2_0 hy2_1 py2_1_h0_rollLength hn H locs ls hP hD hS hl
      refine lv_iload_n hx hb dX11_writeText_2 rfl (lv_at hl 2 rfl) ?_
      refine lv_aload_n hx hb dX11_writeText_3 rfl (lv_at hl 1 rfl) ?_
      refine oC_i (Wc := []) (Wr := [(h0, .inr (10, [.ref h0_tape, .ref h0_law, .ref h0_standing, .ref h0_saying, .ref h0_courtReader, .ref h0_bookReader, .ref h0_sentenceReader, .ref h0_bench, .ref h0_whatIf, .ref h0_history, .ref h0_images, .ref h0_latest, .ref h0_latestBook, .ref h0_latestRoll, .int y2_1])), (aC ca h0_latestRoll 40 f2_2)]) (va_runV (As := []) (rest := [.int y2_0]) ⟨hx, hb, hml, hown, hts⟩ (s_length_2 l D ca ad wt sd H.size ) (cwV 0 hts gX11_writeText_J0_length_8abf5 rfl rfl rfl (by decide +kernel) ⟨Nat.le_of_ble_eq_true rfl, Nat.le_of_ble_eq_true rfl⟩) (tPK 2 (by decide) hT hZ hS hA hK hP hD [] rfl (by decide)) rfl rfl hl.1 rfl (lv_room (Nat.le_of_ble_eq_true rfl)) dX11_writeText_4 ⟨Nat.le_of_ble_eq_true rfl, Nat.le_of_ble_eq_true rfl⟩) hP hD hS hA [] [0, 1] rfl rfl (by decide) (by decide) (fun r_77 u H locs w_78 hP hD hS => ?_)
      obtain ⟨⟩ := u
      have hP : va_P D vwCl [(h0, .inr (10, [.ref h0_tape, .ref h0_law, .ref h0_standing, .ref h0_saying, .ref h0_courtReader, .ref h0_bookReader, .ref h0_sentenceReader, .ref h0_bench, .ref h0_whatIf, .ref h0_history, .ref h0_images, .ref h0_latest, .ref h0_latestBook, .ref h0_latestRoll, .int y2_1])), (aC ca h0_latestRoll 40 f2_2)] H := hP
      have hD : va_D A [(h0, .inr (10, [.ref h0_tape, .ref h0_law, .ref h0_standing, .ref h0_saying, .ref h0_courtReader, .ref h0_bookReader, .ref h0_sentenceReader, .ref h0_bench, .ref h0_whatIf, .ref h0_history, .ref h0_images, .ref h0_latest, .ref h0_latestBook, .ref h0_latestRoll, .int y2_1])), (aC ca h0_latestRoll 40 f2_2)] := hD
      try dsimp only at w_78
      have h_79 := w_78
      subst h_79
      refine lv_icmp_ge (tgt := 25) hx hb dX11_writeText_7 (by decide) (fun c_80 => ?_) (fun c_80 => ?_)
      · skip
        have o_81 : rl 0 14 y2_0 := rl_le c_80
        have h_82 : rg 14 39 y2_0 := rl_y o_81 (⟨by decide, by decide⟩ : rg 14 14 (14 : Int32)) hy2_0 (by decide) (by decide)
        exact oE_v hx hb hr hlocks hP hD hS (y2_1, f2_2) [0, 1] rfl (by decide) ⟨hy2_1, (show rl 0 h0_rollLength y2_1 from rlm (by have q0 := rle py2_1_h0_rollLength; omega))⟩ (Nat.le_of_ble_eq_true rfl) (Nat.le_of_ble_eq_true rfl) dX11_writeText_25
      · skip
        have o_83 : rl 1 y2_0 14 := rl_nle c_80
        have h_84 : rg 0 13 y2_0 := rl_x o_83 hy2_0 (⟨by decide, by decide⟩ : rg 14 14 (14 : Int32)) (by decide) (by decide)
        refine lv_aload_n hx hb dX11_writeText_10 rfl (lv_at hl 0 rfl) ?_
        refine lv_aload_n hx hb dX11_writeText_11 rfl (lv_at hl 1 rfl) ?_
        refine lv_iload_n hx hb dX11_writeText_12 rfl (lv_at hl 2 rfl) ?_
        refine oC_i (Wc := []) (Wr := [(h0, .inr (10, [.ref h0_tape, .ref h0_law, .ref h0_standing, .ref h0_saying, .ref h0_courtReader, .ref h0_bookReader, .ref h0_sentenceReader, .ref h0_bench, .ref h0_whatIf, .ref h0_history, .ref h0_images, .ref h0_latest, .ref h0_latestBook, .ref h0_latestRoll, .int y2_1])), (aC ca h0_latestRoll 40 f2_2)]) (va_runV (As := [.int y2_0]) (rest := [.ref h0]) ⟨hx, hb, hml, hown, hts⟩ (s_charAt_2 l D ca ad wt sd H.size y2_0 h_84) (cwV 1 hts gX11_writeText_J0_charAt_5068e rfl rfl rfl (by decide +kernel) ⟨Nat.le_of_ble_eq_true rfl, Nat.le_of_ble_eq_true rfl⟩) (tPK 2 (by decide) hT hZ hS hA hK hP hD [] rfl (by decide)) rfl rfl hl.1 rfl (lv_room (Nat.le_of_ble_eq_true rfl)) dX11_writeText_13 ⟨Nat.le_of_ble_eq_true rfl, Nat.le_of_ble_eq_true rfl⟩) hP hD hS hA [] [0, 1] rfl rfl (by decide) (by decide) (fun r_85 u H locs w_86 hP hD hS => ?_)
        obtain ⟨⟩ := u
        have hP : va_P D vwCl [(h0, .inr (10, [.ref h0_tape, .ref h0_law, .ref h0_standing, .ref h0_saying, .ref h0_courtReader, .ref h0_bookReader, .ref h0_sentenceReader, .ref h0_bench, .ref h0_whatIf, .ref h0_history, .ref h0_images, .ref h0_latest, .ref h0_latestBook, .ref h0_latestRoll, .int y2_1])), (aC ca h0_latestRoll 40 f2_2)] H := hP
        have hD : va_D A [(h0, .inr (10, [.ref h0_tape, .ref h0_law, .ref h0_standing, .ref h0_saying, .ref h0_courtReader, .ref h0_bookReader, .ref h0_sentenceReader, .ref h0_bench, .ref h0_whatIf, .ref h0_history, .ref h0_images, .ref h0_latest, .ref h0_latestBook, .ref h0_latestRoll, .int y2_1])), (aC ca h0_latestRoll 40 f2_2)] := hD
        try dsimp only at w_86
        obtain ⟨h_87, h_88⟩ := w_86
        refine oC_v (Wc := [(h0, .inr (10, [.ref h0_tape, .ref h0_law, .ref h0_standing, .ref h0_saying, .ref h0_courtReader, .ref h0_bookReader, .ref h0_sentenceReader, .ref h0_bench, .ref h0_whatIf, .ref h0_history, .ref h0_images, .ref h0_latest, .ref h0_latestBook, .ref h0_latestRoll, .int y2_1])), (aC ca h0_latestRoll 40 f2_2)]) (Wr := []) (va_runV (As := [.int r_85]) (rest := []) ⟨hx, hb, hml, hown, hts⟩ (s_X11_writeLetter l D ca H.size h0 r_85 h0_tape h0_law h0_standing h0_saying h0_courtReader h0_bookReader h0_sentenceReader h0_bench h0_whatIf h0_history h0_images h0_latest h0_latestBook h0_latestRoll y2_1 f2_2 hy2_1) (cwV 1 hts gX11_writeText_X11_writeLetter rfl rfl rfl (by decide +kernel) ⟨Nat.le_of_ble_eq_true rfl, Nat.le_of_ble_eq_true rfl⟩) (oPV (C := RX11) hK hP hD [0, 1] rfl (by decide) 0 rfl (ci := 10) rfl rfl) rfl rfl hl.1 rfl (lv_room (Nat.le_of_ble_eq_true rfl)) dX11_writeText_16 ⟨Nat.le_of_ble_eq_true rfl, Nat.le_of_ble_eq_true rfl⟩) hP hD hS hA [0, 1] [] rfl rfl (by decide) (by decide) (fun u H locs w_90 hP hD hS => ?_)
        obtain ⟨u_91, u_92⟩ := u
        have hP : va_P D vwCl [(h0, .inr (10, [.ref h0_tape, .ref h0_law, .ref h0_standing, .ref h0_saying, .ref h0_courtReader, .ref h0_bookReader, .ref h0_sentenceReader, .ref h0_bench, .ref h0_whatIf, .ref h0_history, .ref h0_images, .ref h0_latest, .ref h0_latestBook, .ref h0_latestRoll, .int u_91])), (aC ca h0_latestRoll 40 u_92)] H := hP
        have hD : va_D A [(h0, .inr (10, [.ref h0_tape, .ref h0_law, .ref h0_standing, .ref h0_saying, .ref h0_courtReader, .ref h0_bookReader, .ref h0_sentenceReader, .ref h0_bench, .ref h0_whatIf, .ref h0_history, .ref h0_images, .ref h0_latest, .ref h0_latestBook, .ref h0_latestRoll, .int u_91])), (aC ca h0_latestRoll 40 u_92)] := hD
        try dsimp only at w_90
        obtain ⟨h_93, h_94, h_95⟩ := w_90
        obtain ⟨x_96, ex_96⟩ : ∃ y : Int32, y = y2_0 + 1 := ⟨_, rfl⟩
        have h_97 : rg 1 14 x_96 := by rw [ex_96]; exact rg_add h_84 (⟨by decide, by decide⟩ : rg 1 1 (1 : Int32)) (by decide) (by decide) (by decide) (by decide)
        have l_98 : lq x_96.toInt (y2_0.toInt + 1) := lqm (by rw [ex_96]; have q := tadd h_84 (⟨by decide, by decide⟩ : rg 1 1 (1 : Int32)) (by decide) (by decide); have r1 := lqe (lqm (by decide) : lq (1 : Int32).toInt 1); omega)
        refine lv_iinc (v := x_96) (lv' := [(2, .int x_96), (0, .ref h0), (1, .ref (sd 2))]) hx hb dX11_writeText_19 hl (k := 2) rfl (by rw [ex_96]; rfl) (by decide) rfl (fun ls hl => ?_)
        refine lv_goto (tgt := 2) hx hb dX11_writeText_22 (by decide) ?_
        exact ih x_96 u_91 u_92 trivial (rgw (lo := 0) (hi := 39) h_97 (by decide) (by decide)) (rgw (lo := 0) (hi := 40) h_93 (by decide) (by decide)) (rlm (by have q0 := rle py2_1_h0_rollLength; have q1 := rle h_94; omega)) (by have q0 := lqe l_98; omega) H locs ls (oPsub hP [0, 1] rfl) (hD.sub [0, 1] (by decide) rfl) hS (lv_sub hl [1, 2, 0] rfl)
  refine lv_iconst (v := 0) hx hb dX11_writeText_0 (by decide) ?_
  refine lv_istore_n (lv' := [(2, .int 0), (0, .ref h0), (1, .ref (sd 2))]) hx hb dX11_writeText_1 rfl hl (by decide) rfl (fun ls hl => ?_)
  exact J2_54 40 0 h0_rollLength F_h0_latestRoll trivial (⟨by decide, by decide⟩ : rg 0 39 (0 : Int32)) i_h0_rollLength (rlm (by omega)) (by have q0 := (⟨by decide, by decide⟩ : rg 0 0 (0 : Int32)).1; omega) H locs ls (oPsub hP [0, 1] rfl) (hD.sub [0, 1] (by decide) rfl) hS (lv_sub hl [1, 2, 0] rfl)
theorem dX11_roll_0 : decode cX11_roll 0 = .ok (.aload_n 0, 1) := by decide +kernel
theorem dX11_roll_1 : decode cX11_roll 1 = .ok (.iload_n 1, 1) := by decide +kernel
theorem dX11_roll_2 : decode cX11_roll 2 = .ok (.invokevirtual 164, 3) := by decide +kernel
theorem dX11_roll_5 : decode cX11_roll 5 = .ok (.ifCond .ne 5, 3) := by decide +kernel
theorem dX11_roll_8 : decode cX11_roll 8 = .ok (.iconst (-1), 1) := by decide +kernel
theorem dX11_roll_9 : decode cX11_roll 9 = .ok (.ireturn, 1) := by decide +kernel
theorem dX11_roll_10 : decode cX11_roll 10 = .ok (.aload_n 0, 1) := by decide +kernel
theorem dX11_roll_11 : decode cX11_roll 11 = .ok (.iconst 0, 1) := by decide +kernel
theorem dX11_roll_12 : decode cX11_roll 12 = .ok (.putfield 303, 3) := by decide +kernel
theorem dX11_roll_15 : decode cX11_roll 15 = .ok (.aload_n 0, 1) := by decide +kernel
theorem dX11_roll_16 : decode cX11_roll 16 = .ok (.aload_n 0, 1) := by decide +kernel
theorem dX11_roll_17 : decode cX11_roll 17 = .ok (.getfield 19, 3) := by decide +kernel
theorem dX11_roll_20 : decode cX11_roll 20 = .ok (.getfield 306, 3) := by decide +kernel
theorem dX11_roll_23 : decode cX11_roll 23 = .ok (.iload_n 1, 1) := by decide +kernel
theorem dX11_roll_24 : decode cX11_roll 24 = .ok (.laload, 1) := by decide +kernel
theorem dX11_roll_25 : decode cX11_roll 25 = .ok (.invokevirtual 310, 3) := by decide +kernel
theorem dX11_roll_28 : decode cX11_roll 28 = .ok (.aload_n 0, 1) := by decide +kernel
theorem dX11_roll_29 : decode cX11_roll 29 = .ok (.getfield 26, 3) := by decide +kernel
theorem dX11_roll_32 : decode cX11_roll 32 = .ok (.getfield 170, 3) := by decide +kernel
theorem dX11_roll_35 : decode cX11_roll 35 = .ok (.iload_n 1, 1) := by decide +kernel
theorem dX11_roll_36 : decode cX11_roll 36 = .ok (.iaload, 1) := by decide +kernel
theorem dX11_roll_37 : decode cX11_roll 37 = .ok (.ifCond .ne 15, 3) := by decide +kernel
theorem dX11_roll_40 : decode cX11_roll 40 = .ok (.aload_n 0, 1) := by decide +kernel
theorem dX11_roll_41 : decode cX11_roll 41 = .ok (.ldc_w 314, 3) := by decide +kernel
theorem dX11_roll_44 : decode cX11_roll 44 = .ok (.invokevirtual 316, 3) := by decide +kernel
theorem dX11_roll_47 : decode cX11_roll 47 = .ok (.aload_n 0, 1) := by decide +kernel
theorem dX11_roll_48 : decode cX11_roll 48 = .ok (.getfield 303, 3) := by decide +kernel
theorem dX11_roll_51 : decode cX11_roll 51 = .ok (.ireturn, 1) := by decide +kernel
theorem dX11_roll_52 : decode cX11_roll 52 = .ok (.aload_n 0, 1) := by decide +kernel
theorem dX11_roll_53 : decode cX11_roll 53 = .ok (.aload_n 0, 1) := by decide +kernel
theorem dX11_roll_54 : decode cX11_roll 54 = .ok (.getfield 26, 3) := by decide +kernel
theorem dX11_roll_57 : decode cX11_roll 57 = .ok (.getfield 170, 3) := by decide +kernel
theorem dX11_roll_60 : decode cX11_roll 60 = .ok (.iload_n 1, 1) := by decide +kernel
theorem dX11_roll_61 : decode cX11_roll 61 = .ok (.iaload, 1) := by decide +kernel
theorem dX11_roll_62 : decode cX11_roll 62 = .ok (.iconst 1, 1) := by decide +kernel
theorem dX11_roll_63 : decode cX11_roll 63 = .ok (.if_icmp .ne 9, 3) := by decide +kernel
theorem dX11_roll_66 : decode cX11_roll 66 = .ok (.ldc_w 320, 3) := by decide +kernel
theorem dX11_roll_69 : decode cX11_roll 69 = .ok (.goto 6, 3) := by decide +kernel
theorem dX11_roll_72 : decode cX11_roll 72 = .ok (.ldc_w 322, 3) := by decide +kernel
theorem dX11_roll_75 : decode cX11_roll 75 = .ok (.invokevirtual 316, 3) := by decide +kernel
theorem dX11_roll_78 : decode cX11_roll 78 = .ok (.aload_n 0, 1) := by decide +kernel
theorem dX11_roll_79 : decode cX11_roll 79 = .ok (.getfield 26, 3) := by decide +kernel
theorem dX11_roll_82 : decode cX11_roll 82 = .ok (.getfield 176, 3) := by decide +kernel
theorem dX11_roll_85 : decode cX11_roll 85 = .ok (.iload_n 1, 1) := by decide +kernel
theorem dX11_roll_86 : decode cX11_roll 86 = .ok (.iaload, 1) := by decide +kernel
theorem dX11_roll_87 : decode cX11_roll 87 = .ok (.invokestatic 254, 3) := by decide +kernel
theorem dX11_roll_90 : decode cX11_roll 90 = .ok (.istore_n 2, 1) := by decide +kernel
theorem dX11_roll_91 : decode cX11_roll 91 = .ok (.iload_n 2, 1) := by decide +kernel
theorem dX11_roll_92 : decode cX11_roll 92 = .ok (.bipush 10, 2) := by decide +kernel
theorem dX11_roll_94 : decode cX11_roll 94 = .ok (.if_icmp .lt 15, 3) := by decide +kernel
theorem dX11_roll_97 : decode cX11_roll 97 = .ok (.aload_n 0, 1) := by decide +kernel
theorem dX11_roll_98 : decode cX11_roll 98 = .ok (.bipush 48, 2) := by decide +kernel
theorem dX11_roll_100 : decode cX11_roll 100 = .ok (.iload_n 2, 1) := by decide +kernel
theorem dX11_roll_101 : decode cX11_roll 101 = .ok (.bipush 10, 2) := by decide +kernel
theorem dX11_roll_103 : decode cX11_roll 103 = .ok (.idiv, 1) := by decide +kernel
theorem dX11_roll_104 : decode cX11_roll 104 = .ok (.iadd, 1) := by decide +kernel
theorem dX11_roll_105 : decode cX11_roll 105 = .ok (.i2c, 1) := by decide +kernel
theorem dX11_roll_106 : decode cX11_roll 106 = .ok (.invokevirtual 324, 3) := by decide +kernel
theorem dX11_roll_109 : decode cX11_roll 109 = .ok (.aload_n 0, 1) := by decide +kernel
theorem dX11_roll_110 : decode cX11_roll 110 = .ok (.bipush 48, 2) := by decide +kernel
theorem dX11_roll_112 : decode cX11_roll 112 = .ok (.iload_n 2, 1) := by decide +kernel
theorem dX11_roll_113 : decode cX11_roll 113 = .ok (.bipush 10, 2) := by decide +kernel
theorem dX11_roll_115 : decode cX11_roll 115 = .ok (.irem, 1) := by decide +kernel
theorem dX11_roll_116 : decode cX11_roll 116 = .ok (.iadd, 1) := by decide +kernel
theorem dX11_roll_117 : decode cX11_roll 117 = .ok (.i2c, 1) := by decide +kernel
theorem dX11_roll_118 : decode cX11_roll 118 = .ok (.invokevirtual 324, 3) := by decide +kernel
theorem dX11_roll_121 : decode cX11_roll 121 = .ok (.aload_n 0, 1) := by decide +kernel
theorem dX11_roll_122 : decode cX11_roll 122 = .ok (.getfield 303, 3) := by decide +kernel
theorem dX11_roll_125 : decode cX11_roll 125 = .ok (.ireturn, 1) := by decide +kernel
set_option maxRecDepth 20000 in
theorem ggX11_roll_X11_isCase : GoodIn wsX11_roll wsX11_isCase := goodIn_r _ [11, 2, 12, 83, 84, 85, 86, 87, 88, 89, 90, 91, 92, 93, 94, 95, 96, 97, 98, 99, 100, 101, 102, 103, 104, 105, 106, 107, 108, 109, 110, 111, 112, 113] rfl (by decide +kernel)
set_option maxRecDepth 20000 in
theorem gX11_roll_X11_isCase : GoodIn wsX11_roll (wsV RX11 164 RX11 yX11_isCase wsX11_isCase) := goodIn_app (goodIn_of _ (by decide +kernel)) ggX11_roll_X11_isCase
set_option maxRecDepth 20000 in
theorem ggX11_roll_X11_writeName : GoodIn wsX11_roll wsX11_writeName := goodIn_r _ [16, 17, 18, 19, 20, 10, 21, 1, 22, 83, 84, 85, 86, 87, 88, 89, 90, 91, 92, 93, 94, 95, 96, 97] rfl (by decide +kernel)
set_option maxRecDepth 20000 in
theorem gX11_roll_X11_writeName : GoodIn wsX11_roll (wsV RX11 310 RX11 yX11_writeName wsX11_writeName) := goodIn_app (goodIn_of _ (by decide +kernel)) ggX11_roll_X11_writeName
set_option maxRecDepth 20000 in
theorem ggX11_roll_X11_writeText : GoodIn wsX11_roll wsX11_writeText := goodIn_r _ [26, 27, 28, 29, 30, 31, 32, 33, 34, 35, 36, 37, 38, 39, 40, 41, 42, 43, 44, 45, 46, 47, 48, 49, 50, 51, 52, 53, 54, 55, 56, 57, 58, 59, 60, 61, 62, 63, 64, 65, 66, 67, 68, 69, 70, 71, 72, 73, 74, 75, 18, 19, 20, 10, 21, 1, 22, 83, 84, 85, 86, 87, 88, 89, 90, 91, 92, 93, 94, 95, 96, 97] rfl (by decide +kernel)
set_option maxRecDepth 20000 in
theorem gX11_roll_X11_writeText : GoodIn wsX11_roll (wsV RX11 316 RX11 yX11_writeText wsX11_writeText) := goodIn_app (goodIn_of _ (by decide +kernel)) ggX11_roll_X11_writeText
set_option maxRecDepth 20000 in
theorem ggX11_roll_J6_bitCount_0f7a4 : GoodIn wsX11_roll wsJ6_bitCount_0f7a4 := goodIn_r _ [79, 80, 81, 82] rfl (by decide +kernel)
set_option maxRecDepth 20000 in
theorem gX11_roll_J6_bitCount_0f7a4 : GoodIn wsX11_roll (va_wsS RX11 254 yJ6_bitCount_0f7a4 wsJ6_bitCount_0f7a4) := goodIn_app (goodIn_of _ (by decide +kernel)) ggX11_roll_J6_bitCount_0f7a4
set_option maxRecDepth 20000 in
theorem ggX11_roll_X11_writeLetter : GoodIn wsX11_roll wsX11_writeLetter := goodIn_r _ [21, 1, 22, 83, 84, 85, 86, 87, 88, 89, 90, 91, 92, 93, 94, 95, 96, 97] rfl (by decide +kernel)
set_option maxRecDepth 20000 in
theorem gX11_roll_X11_writeLetter : GoodIn wsX11_roll (wsV RX11 324 RX11 yX11_writeLetter wsX11_writeLetter) := goodIn_app (goodIn_of _ (by decide +kernel)) ggX11_roll_X11_writeLetter
set_option maxHeartbeats 4000000 in
set_option maxRecDepth 100000 in
theorem s_X11_roll (l : Launch) (D : va_G) (ca : Nat → ClassId) (ad : Nat → Nat) (wt : Nat) (sd : Nat → Nat) (sz : Nat) (h0 : Nat) (a1 : Int32) (h0_tape : Nat) (h0_law : Nat) (h0_standing : Nat) (h0_saying : Nat) (h0_courtReader : Nat) (h0_bookReader : Nat) (h0_sentenceReader : Nat) (h0_bench : Nat) (h0_whatIf : Nat) (h0_history : Nat) (h0_images : Nat) (h0_latest : Nat) (h0_latestBook : Nat) (h0_latestRoll : Nat) (h0_rollLength : Int32) (h0_law_jurors : Int32) (h0_law_floors : Int32) (h0_law_cases : Int32) (h0_law_one : Int32) (h0_law_dent : Int32) (h0_law_seated : Int32) (h0_law_jurorName : Nat) (h0_law_floorName : Nat) (h0_law_caseName : Nat) (h0_law_pitch : Nat) (h0_law_length : Nat) (h0_law_hands : Nat) (h0_law_tune : Nat) (h0_law_dull : Nat) (h0_law_caseFloor : Nat) (h0_law_tuned : Nat) (F_h0_law_caseName : Nat → Int64) (F_h0_latestRoll : Nat → Int32) (h0_standing_day : Int32) (h0_standing_sits : Int32) (h0_standing_holds : Int32) (h0_standing_trials : Int32) (h0_standing_triedToday : Int32) (h0_standing_dents : Nat) (h0_standing_drops : Nat) (h0_standing_how : Nat) (h0_standing_triedOn : Nat) (h0_standing_dropped : Nat) (h0_standing_heldOn : Nat) (F_h0_standing_how : Nat → Int32) (F_h0_standing_dropped : Nat → Int32) (i_h0_rollLength : rg 0 40 h0_rollLength) (i_h0_law_jurors : rg 0 10 h0_law_jurors) (i_h0_law_floors : rg 0 4 h0_law_floors) (i_h0_law_cases : rg 0 5 h0_law_cases) (i_h0_law_seated : rg 0 1023 h0_law_seated) (i_h0_standing_sits : rg 0 1023 h0_standing_sits) (i_h0_standing_triedToday : rg 0 1 h0_standing_triedToday) : tMet l yX11_roll wsX11_roll ({ frames := 5, cells := 0, slots := 0, locals := 107 } : Room) [.ref h0, .int a1] D ca ad wt sd sz [(h0, .inr (10, [.ref h0_tape, .ref h0_law, .ref h0_standing, .ref h0_saying, .ref h0_courtReader, .ref h0_bookReader, .ref h0_sentenceReader, .ref h0_bench, .ref h0_whatIf, .ref h0_history, .ref h0_images, .ref h0_latest, .ref h0_latestBook, .ref h0_latestRoll, .int h0_rollLength])), (h0_law, .inr (5, [.int h0_law_jurors, .int h0_law_floors, .int h0_law_cases, .int h0_law_one, .int h0_law_dent, .int h0_law_seated, .ref h0_law_jurorName, .ref h0_law_floorName, .ref h0_law_caseName, .ref h0_law_pitch, .ref h0_law_length, .ref h0_law_hands, .ref h0_law_tune, .ref h0_law_dull, .ref h0_law_caseFloor, .ref h0_law_tuned])), (aJ ca h0_law_caseName 5 F_h0_law_caseName), (aC ca h0_latestRoll 40 F_h0_latestRoll), (h0_standing, .inr (9, [.int h0_standing_day, .int h0_standing_sits, .int h0_standing_holds, .int h0_standing_trials, .int h0_standing_triedToday, .ref h0_standing_dents, .ref h0_standing_drops, .ref h0_standing_how, .ref h0_standing_triedOn, .ref h0_standing_dropped, .ref h0_standing_heldOn])), (aI ca h0_standing_how 5 F_h0_standing_how), (aI ca h0_standing_dropped 5 F_h0_standing_dropped)] (oQi D (fun (r : Int32) (u : Int32 × (Nat → Int32)) => (rg (-1) 40 r) ∧ (rg 0 40 u.1)) (fun (u : Int32 × (Nat → Int32)) => [(h0, .inr (10, [.ref h0_tape, .ref h0_law, .ref h0_standing, .ref h0_saying, .ref h0_courtReader, .ref h0_bookReader, .ref h0_sentenceReader, .ref h0_bench, .ref h0_whatIf, .ref h0_history, .ref h0_images, .ref h0_latest, .ref h0_latestBook, .ref h0_latestRoll, .int u.1])), (h0_law, .inr (5, [.int h0_law_jurors, .int h0_law_floors, .int h0_law_cases, .int h0_law_one, .int h0_law_dent, .int h0_law_seated, .ref h0_law_jurorName, .ref h0_law_floorName, .ref h0_law_caseName, .ref h0_law_pitch, .ref h0_law_length, .ref h0_law_hands, .ref h0_law_tune, .ref h0_law_dull, .ref h0_law_caseFloor, .ref h0_law_tuned])), (aJ ca h0_law_caseName 5 F_h0_law_caseName), (aC ca h0_latestRoll 40 u.2), (h0_standing, .inr (9, [.int h0_standing_day, .int h0_standing_sits, .int h0_standing_holds, .int h0_standing_trials, .int h0_standing_triedToday, .ref h0_standing_dents, .ref h0_standing_drops, .ref h0_standing_how, .ref h0_standing_triedOn, .ref h0_standing_dropped, .ref h0_standing_heldOn])), (aI ca h0_standing_how 5 F_h0_standing_how), (aI ca h0_standing_dropped 5 F_h0_standing_dropped)])) 0 0 := by
  refine tM (cc := cX11_roll) (maxL := 3) (ret := (some .int)) (by decide) rfl (Nat.le_of_ble_eq_true rfl) [(0, .ref h0), (1, .int a1)] rfl ?_
  intro p e s m below meth c A H locs ls hx hb hr hml hts hown hlocks hin hK hP hD hA hS hl hZ hT
  have hown : s.vm.findClass RX11 = some m.cls := hown
  have hE := hZ.2.2.2.2.2.1
  have k1 := hts (.fieldLink RX11 303 "LidCourt" "rollLength" "I") (by decide +kernel)
  have k2 : ∀ w ∈ wsX110, w ∈ wsX11_roll := fun _ h => List.mem_cons_of_mem _ (List.mem_append_left _ (List.mem_append_left _ (List.mem_append_right _ h)))
  have k3 := hts (.fieldLink RX11 19 "LidCourt" "law" "LLidCourt$Law;") (by decide +kernel)
  have k4 := hts (.fieldLink RX11 306 "LidCourt$Law" "caseName" "[J") (by decide +kernel)
  have k5 : ∀ w ∈ wsX50, w ∈ wsX11_roll := fun _ h => List.mem_cons_of_mem _ (List.mem_append_left _ (List.mem_append_right _ h))
  have k6 := hts (.fieldLink RX11 26 "LidCourt" "standing" "LLidCourt$Standing;") (by decide +kernel)
  have k7 := hts (.fieldLink RX11 170 "LidCourt$Standing" "how" "[I") (by decide +kernel)
  have k8 : ∀ w ∈ wsX90, w ∈ wsX11_roll := fun _ h => List.mem_cons_of_mem _ (List.mem_append_right _ h)
  have k9 := hts (.fieldLink RX11 176 "LidCourt$Standing" "dropped" "[I") (by decide +kernel)
  refine lv_aload_n hx hb dX11_roll_0 rfl (lv_at hl 0 rfl) ?_
  refine lv_iload_n hx hb dX11_roll_1 rfl (lv_at hl 1 rfl) ?_
  refine oC_i (Wc := [(h0, .inr (10, [.ref h0_tape, .ref h0_law, .ref h0_standing, .ref h0_saying, .ref h0_courtReader, .ref h0_bookReader, .ref h0_sentenceReader, .ref h0_bench, .ref h0_whatIf, .ref h0_history, .ref h0_images, .ref h0_latest, .ref h0_latestBook, .ref h0_latestRoll, .int h0_rollLength])), (h0_law, .inr (5, [.int h0_law_jurors, .int h0_law_floors, .int h0_law_cases, .int h0_law_one, .int h0_law_dent, .int h0_law_seated, .ref h0_law_jurorName, .ref h0_law_floorName, .ref h0_law_caseName, .ref h0_law_pitch, .ref h0_law_length, .ref h0_law_hands, .ref h0_law_tune, .ref h0_law_dull, .ref h0_law_caseFloor, .ref h0_law_tuned]))]) (Wr := [(aJ ca h0_law_caseName 5 F_h0_law_caseName), (aC ca h0_latestRoll 40 F_h0_latestRoll), (h0_standing, .inr (9, [.int h0_standing_day, .int h0_standing_sits, .int h0_standing_holds, .int h0_standing_trials, .int h0_standing_triedToday, .ref h0_standing_dents, .ref h0_standing_drops, .ref h0_standing_how, .ref h0_standing_triedOn, .ref h0_standing_dropped, .ref h0_standing_heldOn])), (aI ca h0_standing_how 5 F_h0_standing_how), (aI ca h0_standing_dropped 5 F_h0_standing_dropped)]) (va_runV (As := [.int a1]) (rest := []) ⟨hx, hb, hml, hown, hts⟩ (s_X11_isCase l D ca H.size h0 a1 h0_tape h0_law h0_standing h0_saying h0_courtReader h0_bookReader h0_sentenceReader h0_bench h0_whatIf h0_history h0_images h0_latest h0_latestBook h0_latestRoll h0_rollLength h0_law_jurors h0_law_floors h0_law_cases h0_law_one h0_law_dent h0_law_seated h0_law_jurorName h0_law_floorName h0_law_caseName h0_law_pitch h0_law_length h0_law_hands h0_law_tune h0_law_dull h0_law_caseFloor h0_law_tuned i_h0_rollLength i_h0_law_jurors i_h0_law_floors i_h0_law_cases i_h0_law_seated) (cwV 1 hts gX11_roll_X11_isCase rfl rfl rfl (by decide +kernel) ⟨Nat.le_of_ble_eq_true rfl, Nat.le_of_ble_eq_true rfl⟩) (oPV (C := RX11) hK hP hD [0, 1] rfl (by decide) 0 rfl (ci := 10) rfl rfl) rfl rfl hl.1 rfl (lv_room (Nat.le_of_ble_eq_true rfl)) dX11_roll_2 ⟨Nat.le_of_ble_eq_true rfl, Nat.le_of_ble_eq_true rfl⟩) hP hD hS hA [0, 1] [2, 3, 4, 5, 6] rfl rfl (by decide) (by decide) (fun r_140 u H locs w_141 hP hD hS => ?_)
  obtain ⟨⟩ := u
  have hP : va_P D vwCl [(aJ ca h0_law_caseName 5 F_h0_law_caseName), (aC ca h0_latestRoll 40 F_h0_latestRoll), (h0_standing, .inr (9, [.int h0_standing_day, .int h0_standing_sits, .int h0_standing_holds, .int h0_standing_trials, .int h0_standing_triedToday, .ref h0_standing_dents, .ref h0_standing_drops, .ref h0_standing_how, .ref h0_standing_triedOn, .ref h0_standing_dropped, .ref h0_standing_heldOn])), (aI ca h0_standing_how 5 F_h0_standing_how), (aI ca h0_standing_dropped 5 F_h0_standing_dropped), (h0, .inr (10, [.ref h0_tape, .ref h0_law, .ref h0_standing, .ref h0_saying, .ref h0_courtReader, .ref h0_bookReader, .ref h0_sentenceReader, .ref h0_bench, .ref h0_whatIf, .ref h0_history, .ref h0_images, .ref h0_latest, .ref h0_latestBook, .ref h0_latestRoll, .int h0_rollLength])), (h0_law, .inr (5, [.int h0_law_jurors, .int h0_law_floors, .int h0_law_cases, .int h0_law_one, .int h0_law_dent, .int h0_law_seated, .ref h0_law_jurorName, .ref h0_law_floorName, .ref h0_law_caseName, .ref h0_law_pitch, .ref h0_law_length, .ref h0_law_hands, .ref h0_law_tune, .ref h0_law_dull, .ref h0_law_caseFloor, .ref h0_law_tuned]))] H := hP
  have hD : va_D A [(aJ ca h0_law_caseName 5 F_h0_law_caseName), (aC ca h0_latestRoll 40 F_h0_latestRoll), (h0_standing, .inr (9, [.int h0_standing_day, .int h0_standing_sits, .int h0_standing_holds, .int h0_standing_trials, .int h0_standing_triedToday, .ref h0_standing_dents, .ref h0_standing_drops, .ref h0_standing_how, .ref h0_standing_triedOn, .ref h0_standing_dropped, .ref h0_standing_heldOn])), (aI ca h0_standing_how 5 F_h0_standing_how), (aI ca h0_standing_dropped 5 F_h0_standing_dropped), (h0, .inr (10, [.ref h0_tape, .ref h0_law, .ref h0_standing, .ref h0_saying, .ref h0_courtReader, .ref h0_bookReader, .ref h0_sentenceReader, .ref h0_bench, .ref h0_whatIf, .ref h0_history, .ref h0_images, .ref h0_latest, .ref h0_latestBook, .ref h0_latestRoll, .int h0_rollLength])), (h0_law, .inr (5, [.int h0_law_jurors, .int h0_law_floors, .int h0_law_cases, .int h0_law_one, .int h0_law_dent, .int h0_law_seated, .ref h0_law_jurorName, .ref h0_law_floorName, .ref h0_law_caseName, .ref h0_law_pitch, .ref h0_law_length, .ref h0_law_hands, .ref h0_law_tune, .ref h0_law_dull, .ref h0_law_caseFloor, .ref h0_law_tuned]))] := hD
  try dsimp only at w_141
  rcases w_141 with h_142 | ⟨h_143, h_144, h_145, h_146⟩
  · skip
    subst h_142
    refine lv_if_ne (tgt := 10) hx hb dX11_roll_5 (by decide) (fun c => absurd (by decide) c) (fun _ => ?_)
    refine lv_iconst (v := (-1)) hx hb dX11_roll_8 (by decide) ?_
    exact oE_i hx hb hr rfl hlocks hP hD hS (h0_rollLength, F_h0_latestRoll) [5, 6, 0, 1, 2, 3, 4] rfl (by decide) ⟨(⟨by decide, by decide⟩ : rg (-1) 40 ((-1) : Int32)), i_h0_rollLength⟩ (Nat.le_of_ble_eq_true rfl) (Nat.le_of_ble_eq_true rfl) dX11_roll_9
  · skip
    subst h_143
    refine lv_if_ne (tgt := 10) hx hb dX11_roll_5 (by decide) (fun _ => ?_) (fun c => absurd c (by decide))
    refine lv_aload_n hx hb dX11_roll_10 rfl (lv_at hl 0 rfl) ?_
    refine lv_iconst (v := 0) hx hb dX11_roll_11 (by decide) ?_
    refine va_put (D := D) (ci := 10) (v := .int 0) (ty := .int) (C := RX11) (T := TX11) (N := 15) hx hb hts k2 tyX11 tyX11_ok nmX11 hown hK.1 hP hD hS 5 rfl rfl 14 (by decide) k1 (fun _ h9 => h9) rfl (by decide +kernel) rfl rfl (Nat.le_of_ble_eq_true rfl) dX11_roll_12 (fun H locs hP hD hS => ?_)
    have hP : va_P D vwCl [(aJ ca h0_law_caseName 5 F_h0_law_caseName), (aC ca h0_latestRoll 40 F_h0_latestRoll), (h0_standing, .inr (9, [.int h0_standing_day, .int h0_standing_sits, .int h0_standing_holds, .int h0_standing_trials, .int h0_standing_triedToday, .ref h0_standing_dents, .ref h0_standing_drops, .ref h0_standing_how, .ref h0_standing_triedOn, .ref h0_standing_dropped, .ref h0_standing_heldOn])), (aI ca h0_standing_how 5 F_h0_standing_how), (aI ca h0_standing_dropped 5 F_h0_standing_dropped), (h0, .inr (10, [.ref h0_tape, .ref h0_law, .ref h0_standing, .ref h0_saying, .ref h0_courtReader, .ref h0_bookReader, .ref h0_sentenceReader, .ref h0_bench, .ref h0_whatIf, .ref h0_history, .ref h0_images, .ref h0_latest, .ref h0_latestBook, .ref h0_latestRoll, .int 0])), (h0_law, .inr (5, [.int h0_law_jurors, .int h0_law_floors, .int h0_law_cases, .int h0_law_one, .int h0_law_dent, .int h0_law_seated, .ref h0_law_jurorName, .ref h0_law_floorName, .ref h0_law_caseName, .ref h0_law_pitch, .ref h0_law_length, .ref h0_law_hands, .ref h0_law_tune, .ref h0_law_dull, .ref h0_law_caseFloor, .ref h0_law_tuned]))] H := hP
    have hD : va_D A [(aJ ca h0_law_caseName 5 F_h0_law_caseName), (aC ca h0_latestRoll 40 F_h0_latestRoll), (h0_standing, .inr (9, [.int h0_standing_day, .int h0_standing_sits, .int h0_standing_holds, .int h0_standing_trials, .int h0_standing_triedToday, .ref h0_standing_dents, .ref h0_standing_drops, .ref h0_standing_how, .ref h0_standing_triedOn, .ref h0_standing_dropped, .ref h0_standing_heldOn])), (aI ca h0_standing_how 5 F_h0_standing_how), (aI ca h0_standing_dropped 5 F_h0_standing_dropped), (h0, .inr (10, [.ref h0_tape, .ref h0_law, .ref h0_standing, .ref h0_saying, .ref h0_courtReader, .ref h0_bookReader, .ref h0_sentenceReader, .ref h0_bench, .ref h0_whatIf, .ref h0_history, .ref h0_images, .ref h0_latest, .ref h0_latestBook, .ref h0_latestRoll, .int 0])), (h0_law, .inr (5, [.int h0_law_jurors, .int h0_law_floors, .int h0_law_cases, .int h0_law_one, .int h0_law_dent, .int h0_law_seated, .ref h0_law_jurorName, .ref h0_law_floorName, .ref h0_law_caseName, .ref h0_law_pitch, .ref h0_law_length, .ref h0_law_hands, .ref h0_law_tune, .ref h0_law_dull, .ref h0_law_caseFloor, .ref h0_law_tuned]))] := hD
    refine lv_aload_n hx hb dX11_roll_15 rfl (lv_at hl 0 rfl) ?_
    refine lv_aload_n hx hb dX11_roll_16 rfl (lv_at hl 0 rfl) ?_
    refine va_get (D := D) (ci := 10) (v := .ref h0_law) (C := RX11) (T := TX11) (N := 15) hx hb hts k2 hown hK.1 hP 5 rfl rfl 1 (by decide) k3 (fun _ h9 => h9) rfl dX11_roll_17 ?_
    refine va_get (D := D) (ci := 5) (v := .ref h0_law_caseName) (C := RX5) (T := TX5) (N := 16) hx hb hts k5 hown hK.1 hP 6 rfl rfl 8 (by decide) k4 (fun _ h9 => h9) rfl dX11_roll_20 ?_
    refine lv_iload_n hx hb dX11_roll_23 rfl (lv_at hl 1 rfl) ?_
    refine va_lald hx hb hK.1 hP 0 1 rfl rfl (rg_in h_144 (by decide) (by decide)) dX11_roll_24 ?_
    refine lv_topl (fun x_147 ex_147 => ?_)
    refine oC_v (Wc := [(h0, .inr (10, [.ref h0_tape, .ref h0_law, .ref h0_standing, .ref h0_saying, .ref h0_courtReader, .ref h0_bookReader, .ref h0_sentenceReader, .ref h0_bench, .ref h0_whatIf, .ref h0_history, .ref h0_images, .ref h0_latest, .ref h0_latestBook, .ref h0_latestRoll, .int 0])), (aC ca h0_latestRoll 40 F_h0_latestRoll)]) (Wr := [(aJ ca h0_law_caseName 5 F_h0_law_caseName), (h0_standing, .inr (9, [.int h0_standing_day, .int h0_standing_sits, .int h0_standing_holds, .int h0_standing_trials, .int h0_standing_triedToday, .ref h0_standing_dents, .ref h0_standing_drops, .ref h0_standing_how, .ref h0_standing_triedOn, .ref h0_standing_dropped, .ref h0_standing_heldOn])), (aI ca h0_standing_how 5 F_h0_standing_how), (aI ca h0_standing_dropped 5 F_h0_standing_dropped), (h0_law, .inr (5, [.int h0_law_jurors, .int h0_law_floors, .int h0_law_cases, .int h0_law_one, .int h0_law_dent, .int h0_law_seated, .ref h0_law_jurorName, .ref h0_law_floorName, .ref h0_law_caseName, .ref h0_law_pitch, .ref h0_law_length, .ref h0_law_hands, .ref h0_law_tune, .ref h0_law_dull, .ref h0_law_caseFloor, .ref h0_law_tuned]))]) (va_runV (As := [.long x_147]) (rest := []) ⟨hx, hb, hml, hown, hts⟩ (s_X11_writeName l D ca H.size h0 x_147 h0_tape h0_law h0_standing h0_saying h0_courtReader h0_bookReader h0_sentenceReader h0_bench h0_whatIf h0_history h0_images h0_latest h0_latestBook h0_latestRoll 0 F_h0_latestRoll (⟨by decide, by decide⟩ : rg 0 40 (0 : Int32))) (cwV 1 hts gX11_roll_X11_writeName rfl rfl rfl (by decide +kernel) ⟨Nat.le_of_ble_eq_true rfl, Nat.le_of_ble_eq_true rfl⟩) (oPV (C := RX11) hK hP hD [5, 1] rfl (by decide) 0 rfl (ci := 10) rfl rfl) rfl rfl hl.1 rfl (lv_room (Nat.le_of_ble_eq_true rfl)) dX11_roll_25 ⟨Nat.le_of_ble_eq_true rfl, Nat.le_of_ble_eq_true rfl⟩) hP hD hS hA [5, 1] [0, 2, 3, 4, 6] rfl rfl (by decide) (by decide) (fun u H locs w_149 hP hD hS => ?_)
    obtain ⟨u_150, u_151⟩ := u
    have hP : va_P D vwCl [(aJ ca h0_law_caseName 5 F_h0_law_caseName), (h0_standing, .inr (9, [.int h0_standing_day, .int h0_standing_sits, .int h0_standing_holds, .int h0_standing_trials, .int h0_standing_triedToday, .ref h0_standing_dents, .ref h0_standing_drops, .ref h0_standing_how, .ref h0_standing_triedOn, .ref h0_standing_dropped, .ref h0_standing_heldOn])), (aI ca h0_standing_how 5 F_h0_standing_how), (aI ca h0_standing_dropped 5 F_h0_standing_dropped), (h0_law, .inr (5, [.int h0_law_jurors, .int h0_law_floors, .int h0_law_cases, .int h0_law_one, .int h0_law_dent, .int h0_law_seated, .ref h0_law_jurorName, .ref h0_law_floorName, .ref h0_law_caseName, .ref h0_law_pitch, .ref h0_law_length, .ref h0_law_hands, .ref h0_law_tune, .ref h0_law_dull, .ref h0_law_caseFloor, .ref h0_law_tuned])), (h0, .inr (10, [.ref h0_tape, .ref h0_law, .ref h0_standing, .ref h0_saying, .ref h0_courtReader, .ref h0_bookReader, .ref h0_sentenceReader, .ref h0_bench, .ref h0_whatIf, .ref h0_history, .ref h0_images, .ref h0_latest, .ref h0_latestBook, .ref h0_latestRoll, .int u_150])), (aC ca h0_latestRoll 40 u_151)] H := hP
    have hD : va_D A [(aJ ca h0_law_caseName 5 F_h0_law_caseName), (h0_standing, .inr (9, [.int h0_standing_day, .int h0_standing_sits, .int h0_standing_holds, .int h0_standing_trials, .int h0_standing_triedToday, .ref h0_standing_dents, .ref h0_standing_drops, .ref h0_standing_how, .ref h0_standing_triedOn, .ref h0_standing_dropped, .ref h0_standing_heldOn])), (aI ca h0_standing_how 5 F_h0_standing_how), (aI ca h0_standing_dropped 5 F_h0_standing_dropped), (h0_law, .inr (5, [.int h0_law_jurors, .int h0_law_floors, .int h0_law_cases, .int h0_law_one, .int h0_law_dent, .int h0_law_seated, .ref h0_law_jurorName, .ref h0_law_floorName, .ref h0_law_caseName, .ref h0_law_pitch, .ref h0_law_length, .ref h0_law_hands, .ref h0_law_tune, .ref h0_law_dull, .ref h0_law_caseFloor, .ref h0_law_tuned])), (h0, .inr (10, [.ref h0_tape, .ref h0_law, .ref h0_standing, .ref h0_saying, .ref h0_courtReader, .ref h0_bookReader, .ref h0_sentenceReader, .ref h0_bench, .ref h0_whatIf, .ref h0_history, .ref h0_images, .ref h0_latest, .ref h0_latestBook, .ref h0_latestRoll, .int u_150])), (aC ca h0_latestRoll 40 u_151)] := hD
    try dsimp only at w_149
    obtain ⟨h_152, h_153⟩ := w_149
    refine lv_aload_n hx hb dX11_roll_28 rfl (lv_at hl 0 rfl) ?_
    refine va_get (D := D) (ci := 10) (v := .ref h0_standing) (C := RX11) (T := TX11) (N := 15) hx hb hts k2 hown hK.1 hP 5 rfl rfl 2 (by decide) k6 (fun _ h9 => h9) rfl dX11_roll_29 ?_
    refine va_get (D := D) (ci := 9) (v := .ref h0_standing_how) (C := RX9) (T := TX9) (N := 11) hx hb hts k8 hown hK.1 hP 1 rfl rfl 7 (by decide) k7 (fun _ h9 => h9) rfl dX11_roll_32 ?_
    refine lv_iload_n hx hb dX11_roll_35 rfl (lv_at hl 1 rfl) ?_
    refine va_iald hx hb hK.1 hP 2 0 rfl rfl (rg_in h_144 (by decide) (by decide)) dX11_roll_36 ?_
    refine lv_topi (fun x_154 ex_154 => ?_)
    refine lv_if_ne (tgt := 52) hx hb dX11_roll_37 (by decide) (fun c_155 => ?_) (fun c_155 => ?_)
    · skip
      refine lv_aload_n hx hb dX11_roll_52 rfl (lv_at hl 0 rfl) ?_
      refine lv_aload_n hx hb dX11_roll_53 rfl (lv_at hl 0 rfl) ?_
      refine va_get (D := D) (ci := 10) (v := .ref h0_standing) (C := RX11) (T := TX11) (N := 15) hx hb hts k2 hown hK.1 hP 5 rfl rfl 2 (by decide) k6 (fun _ h9 => h9) rfl dX11_roll_54 ?_
      refine va_get (D := D) (ci := 9) (v := .ref h0_standing_how) (C := RX9) (T := TX9) (N := 11) hx hb hts k8 hown hK.1 hP 1 rfl rfl 7 (by decide) k7 (fun _ h9 => h9) rfl dX11_roll_57 ?_
      refine lv_iload_n hx hb dX11_roll_60 rfl (lv_at hl 1 rfl) ?_
      refine va_iald hx hb hK.1 hP 2 0 rfl rfl (rg_in h_144 (by decide) (by decide)) dX11_roll_61 ?_
      refine oti x_154 ex_154.symm ?_
      refine lv_iconst (v := 1) hx hb dX11_roll_62 (by decide) ?_
      refine lv_icmp_ne (tgt := 72) hx hb dX11_roll_63 (by decide) (fun c_156 => ?_) (fun c_156 => ?_)
      · skip
        refine va_ldcwS hx hb hown hT.2.1.2.2 dX11_roll_72 ?_
        refine oC_v (Wc := [(h0, .inr (10, [.ref h0_tape, .ref h0_law, .ref h0_standing, .ref h0_saying, .ref h0_courtReader, .ref h0_bookReader, .ref h0_sentenceReader, .ref h0_bench, .ref h0_whatIf, .ref h0_history, .ref h0_images, .ref h0_latest, .ref h0_latestBook, .ref h0_latestRoll, .int u_150])), (aC ca h0_latestRoll 40 u_151)]) (Wr := [(aJ ca h0_law_caseName 5 F_h0_law_caseName), (h0_standing, .inr (9, [.int h0_standing_day, .int h0_standing_sits, .int h0_standing_holds, .int h0_standing_trials, .int h0_standing_triedToday, .ref h0_standing_dents, .ref h0_standing_drops, .ref h0_standing_how, .ref h0_standing_triedOn, .ref h0_standing_dropped, .ref h0_standing_heldOn])), (aI ca h0_standing_how 5 F_h0_standing_how), (aI ca h0_standing_dropped 5 F_h0_standing_dropped), (h0_law, .inr (5, [.int h0_law_jurors, .int h0_law_floors, .int h0_law_cases, .int h0_law_one, .int h0_law_dent, .int h0_law_seated, .ref h0_law_jurorName, .ref h0_law_floorName, .ref h0_law_caseName, .ref h0_law_pitch, .ref h0_law_length, .ref h0_law_hands, .ref h0_law_tune, .ref h0_law_dull, .ref h0_law_caseFloor, .ref h0_law_tuned]))]) (va_runV (As := [.ref (sd 2)]) (rest := []) ⟨hx, hb, hml, hown, hts⟩ (s_X11_writeText_2 l D ca ad wt sd H.size h0 h0_tape h0_law h0_standing h0_saying h0_courtReader h0_bookReader h0_sentenceReader h0_bench h0_whatIf h0_history h0_images h0_latest h0_latestBook h0_latestRoll u_150 u_151 h_152) (cwV 1 hts gX11_roll_X11_writeText rfl rfl rfl (by decide +kernel) ⟨Nat.le_of_ble_eq_true rfl, Nat.le_of_ble_eq_true rfl⟩) (tPV (C := RX11) hT hZ hS hA hK hP hD [5, 6] rfl (by decide) 0 rfl (ci := 10) rfl rfl) rfl rfl hl.1 rfl (lv_room (Nat.le_of_ble_eq_true rfl)) dX11_roll_75 ⟨Nat.le_of_ble_eq_true rfl, Nat.le_of_ble_eq_true rfl⟩) hP hD hS hA [5, 6] [0, 1, 2, 3, 4] rfl rfl (by decide) (by decide) (fun u H locs w_158 hP hD hS => ?_)
        obtain ⟨u_159, u_160⟩ := u
        have hP : va_P D vwCl [(aJ ca h0_law_caseName 5 F_h0_law_caseName), (h0_standing, .inr (9, [.int h0_standing_day, .int h0_standing_sits, .int h0_standing_holds, .int h0_standing_trials, .int h0_standing_triedToday, .ref h0_standing_dents, .ref h0_standing_drops, .ref h0_standing_how, .ref h0_standing_triedOn, .ref h0_standing_dropped, .ref h0_standing_heldOn])), (aI ca h0_standing_how 5 F_h0_standing_how), (aI ca h0_standing_dropped 5 F_h0_standing_dropped), (h0_law, .inr (5, [.int h0_law_jurors, .int h0_law_floors, .int h0_law_cases, .int h0_law_one, .int h0_law_dent, .int h0_law_seated, .ref h0_law_jurorName, .ref h0_law_floorName, .ref h0_law_caseName, .ref h0_law_pitch, .ref h0_law_length, .ref h0_law_hands, .ref h0_law_tune, .ref h0_law_dull, .ref h0_law_caseFloor, .ref h0_law_tuned])), (h0, .inr (10, [.ref h0_tape, .ref h0_law, .ref h0_standing, .ref h0_saying, .ref h0_courtReader, .ref h0_bookReader, .ref h0_sentenceReader, .ref h0_bench, .ref h0_whatIf, .ref h0_history, .ref h0_images, .ref h0_latest, .ref h0_latestBook, .ref h0_latestRoll, .int u_159])), (aC ca h0_latestRoll 40 u_160)] H := hP
        have hD : va_D A [(aJ ca h0_law_caseName 5 F_h0_law_caseName), (h0_standing, .inr (9, [.int h0_standing_day, .int h0_standing_sits, .int h0_standing_holds, .int h0_standing_trials, .int h0_standing_triedToday, .ref h0_standing_dents, .ref h0_standing_drops, .ref h0_standing_how, .ref h0_standing_triedOn, .ref h0_standing_dropped, .ref h0_standing_heldOn])), (aI ca h0_standing_how 5 F_h0_standing_how), (aI ca h0_standing_dropped 5 F_h0_standing_dropped), (h0_law, .inr (5, [.int h0_law_jurors, .int h0_law_floors, .int h0_law_cases, .int h0_law_one, .int h0_law_dent, .int h0_law_seated, .ref h0_law_jurorName, .ref h0_law_floorName, .ref h0_law_caseName, .ref h0_law_pitch, .ref h0_law_length, .ref h0_law_hands, .ref h0_law_tune, .ref h0_law_dull, .ref h0_law_caseFloor, .ref h0_law_tuned])), (h0, .inr (10, [.ref h0_tape, .ref h0_law, .ref h0_standing, .ref h0_saying, .ref h0_courtReader, .ref h0_bookReader, .ref h0_sentenceReader, .ref h0_bench, .ref h0_whatIf, .ref h0_history, .ref h0_images, .ref h0_latest, .ref h0_latestBook, .ref h0_latestRoll, .int u_159])), (aC ca h0_latestRoll 40 u_160)] := hD
        try dsimp only at w_158
        obtain ⟨h_161, h_162⟩ := w_158
        refine lv_aload_n hx hb dX11_roll_78 rfl (lv_at hl 0 rfl) ?_
        refine va_get (D := D) (ci := 10) (v := .ref h0_standing) (C := RX11) (T := TX11) (N := 15) hx hb hts k2 hown hK.1 hP 5 rfl rfl 2 (by decide) k6 (fun _ h9 => h9) rfl dX11_roll_79 ?_
        refine va_get (D := D) (ci := 9) (v := .ref h0_standing_dropped) (C := RX9) (T := TX9) (N := 11) hx hb hts k8 hown hK.1 hP 1 rfl rfl 9 (by decide) k9 (fun _ h9 => h9) rfl dX11_roll_82 ?_
        refine lv_iload_n hx hb dX11_roll_85 rfl (lv_at hl 1 rfl) ?_
        refine va_iald hx hb hK.1 hP 3 0 rfl rfl (rg_in h_144 (by decide) (by decide)) dX11_roll_86 ?_
        refine lv_topi (fun x_163 ex_163 => ?_)
        refine oC_i (Wc := []) (Wr := [(aJ ca h0_law_caseName 5 F_h0_law_caseName), (h0_standing, .inr (9, [.int h0_standing_day, .int h0_standing_sits, .int h0_standing_holds, .int h0_standing_trials, .int h0_standing_triedToday, .ref h0_standing_dents, .ref h0_standing_drops, .ref h0_standing_how, .ref h0_standing_triedOn, .ref h0_standing_dropped, .ref h0_standing_heldOn])), (aI ca h0_standing_how 5 F_h0_standing_how), (aI ca h0_standing_dropped 5 F_h0_standing_dropped), (h0_law, .inr (5, [.int h0_law_jurors, .int h0_law_floors, .int h0_law_cases, .int h0_law_one, .int h0_law_dent, .int h0_law_seated, .ref h0_law_jurorName, .ref h0_law_floorName, .ref h0_law_caseName, .ref h0_law_pitch, .ref h0_law_length, .ref h0_law_hands, .ref h0_law_tune, .ref h0_law_dull, .ref h0_law_caseFloor, .ref h0_law_tuned])), (h0, .inr (10, [.ref h0_tape, .ref h0_law, .ref h0_standing, .ref h0_saying, .ref h0_courtReader, .ref h0_bookReader, .ref h0_sentenceReader, .ref h0_bench, .ref h0_whatIf, .ref h0_history, .ref h0_images, .ref h0_latest, .ref h0_latestBook, .ref h0_latestRoll, .int u_159])), (aC ca h0_latestRoll 40 u_160)]) (va_runS (As := [.int x_163]) (rest := []) ⟨hx, hb, hml, hown, hts⟩ (s_J6_bitCount_0f7a4 l D ca H.size x_163) (va_cwS 1 hts gX11_roll_J6_bitCount_0f7a4 rfl rfl rfl (by decide +kernel) ⟨Nat.le_of_ble_eq_true rfl, Nat.le_of_ble_eq_true rfl⟩) (oPS hK hP hD [] rfl (by decide)) rfl rfl hl.1 rfl (lv_room (Nat.le_of_ble_eq_true rfl)) dX11_roll_87 ⟨Nat.le_of_ble_eq_true rfl, Nat.le_of_ble_eq_true rfl⟩) hP hD hS hA [] [0, 1, 2, 3, 4, 5, 6] rfl rfl (by decide) (by decide) (fun r_164 u H locs w_165 hP hD hS => ?_)
        obtain ⟨⟩ := u
        have hP : va_P D vwCl [(aJ ca h0_law_caseName 5 F_h0_law_caseName), (h0_standing, .inr (9, [.int h0_standing_day, .int h0_standing_sits, .int h0_standing_holds, .int h0_standing_trials, .int h0_standing_triedToday, .ref h0_standing_dents, .ref h0_standing_drops, .ref h0_standing_how, .ref h0_standing_triedOn, .ref h0_standing_dropped, .ref h0_standing_heldOn])), (aI ca h0_standing_how 5 F_h0_standing_how), (aI ca h0_standing_dropped 5 F_h0_standing_dropped), (h0_law, .inr (5, [.int h0_law_jurors, .int h0_law_floors, .int h0_law_cases, .int h0_law_one, .int h0_law_dent, .int h0_law_seated, .ref h0_law_jurorName, .ref h0_law_floorName, .ref h0_law_caseName, .ref h0_law_pitch, .ref h0_law_length, .ref h0_law_hands, .ref h0_law_tune, .ref h0_law_dull, .ref h0_law_caseFloor, .ref h0_law_tuned])), (h0, .inr (10, [.ref h0_tape, .ref h0_law, .ref h0_standing, .ref h0_saying, .ref h0_courtReader, .ref h0_bookReader, .ref h0_sentenceReader, .ref h0_bench, .ref h0_whatIf, .ref h0_history, .ref h0_images, .ref h0_latest, .ref h0_latestBook, .ref h0_latestRoll, .int u_159])), (aC ca h0_latestRoll 40 u_160)] H := hP
        have hD : va_D A [(aJ ca h0_law_caseName 5 F_h0_law_caseName), (h0_standing, .inr (9, [.int h0_standing_day, .int h0_standing_sits, .int h0_standing_holds, .int h0_standing_trials, .int h0_standing_triedToday, .ref h0_standing_dents, .ref h0_standing_drops, .ref h0_standing_how, .ref h0_standing_triedOn, .ref h0_standing_dropped, .ref h0_standing_heldOn])), (aI ca h0_standing_how 5 F_h0_standing_how), (aI ca h0_standing_dropped 5 F_h0_standing_dropped), (h0_law, .inr (5, [.int h0_law_jurors, .int h0_law_floors, .int h0_law_cases, .int h0_law_one, .int h0_law_dent, .int h0_law_seated, .ref h0_law_jurorName, .ref h0_law_floorName, .ref h0_law_caseName, .ref h0_law_pitch, .ref h0_law_length, .ref h0_law_hands, .ref h0_law_tune, .ref h0_law_dull, .ref h0_law_caseFloor, .ref h0_law_tuned])), (h0, .inr (10, [.ref h0_tape, .ref h0_law, .ref h0_standing, .ref h0_saying, .ref h0_courtReader, .ref h0_bookReader, .ref h0_sentenceReader, .ref h0_bench, .ref h0_whatIf, .ref h0_history, .ref h0_images, .ref h0_latest, .ref h0_latestBook, .ref h0_latestRoll, .int u_159])), (aC ca h0_latestRoll 40 u_160)] := hD
        try dsimp only at w_165
        have h_166 := w_165
        refine lv_istore_n (lv' := [(2, .int r_164), (0, .ref h0), (1, .int a1)]) hx hb dX11_roll_90 rfl hl (by decide) rfl (fun ls hl => ?_)
        refine lv_iload_n hx hb dX11_roll_91 rfl (lv_at hl 0 rfl) ?_
        refine lv_bipush (v := 10) hx hb dX11_roll_92 (by decide) ?_
        refine lv_icmp_lt (tgt := 109) hx hb dX11_roll_94 (by decide) (fun c_167 => ?_) (fun c_167 => ?_)
        · skip
          have o_168 : rl 1 r_164 10 := rl_lt c_167
          have h_169 : rg 0 9 r_164 := rl_x o_168 h_166 (⟨by decide, by decide⟩ : rg 10 10 (10 : Int32)) (by decide) (by decide)
          refine lv_aload_n hx hb dX11_roll_109 rfl (lv_at hl 1 rfl) ?_
          refine lv_bipush (v := 48) hx hb dX11_roll_110 (by decide) ?_
          refine lv_iload_n hx hb dX11_roll_112 rfl (lv_at hl 0 rfl) ?_
          refine lv_bipush (v := 10) hx hb dX11_roll_113 (by decide) ?_
          refine lv_irem hx hb dX11_roll_115 (by decide) ?_
          refine lv_topi (fun x_170 ex_170 => ?_)
          have h_171 : rg 0 9 x_170 := by rw [ex_170]; exact rg_rem h_169 (⟨by decide, by decide⟩ : rg 10 10 (10 : Int32)) (by decide) (by decide) (by decide) (by decide)
          refine lv_iadd hx hb dX11_roll_116 ?_
          refine lv_topi (fun x_172 ex_172 => ?_)
          have h_173 : rg 48 57 x_172 := by rw [ex_172]; exact rg_add (⟨by decide, by decide⟩ : rg 48 48 (48 : Int32)) h_171 (by decide) (by decide) (by decide) (by decide)
          have l_174 : lq x_172.toInt (x_170.toInt + 48) := lqm (by rw [ex_172]; have q := tadd (⟨by decide, by decide⟩ : rg 48 48 (48 : Int32)) h_171 (by decide) (by decide); have r0 := lqe (lqm (by decide) : lq (48 : Int32).toInt 48); omega)
          refine lv_i2c hx hb dX11_roll_117 rfl ?_
          refine lv_topi (fun x_175 ex_175 => ?_)
          refine oC_v (Wc := [(h0, .inr (10, [.ref h0_tape, .ref h0_law, .ref h0_standing, .ref h0_saying, .ref h0_courtReader, .ref h0_bookReader, .ref h0_sentenceReader, .ref h0_bench, .ref h0_whatIf, .ref h0_history, .ref h0_images, .ref h0_latest, .ref h0_latestBook, .ref h0_latestRoll, .int u_159])), (aC ca h0_latestRoll 40 u_160)]) (Wr := [(aJ ca h0_law_caseName 5 F_h0_law_caseName), (h0_standing, .inr (9, [.int h0_standing_day, .int h0_standing_sits, .int h0_standing_holds, .int h0_standing_trials, .int h0_standing_triedToday, .ref h0_standing_dents, .ref h0_standing_drops, .ref h0_standing_how, .ref h0_standing_triedOn, .ref h0_standing_dropped, .ref h0_standing_heldOn])), (aI ca h0_standing_how 5 F_h0_standing_how), (aI ca h0_standing_dropped 5 F_h0_standing_dropped), (h0_law, .inr (5, [.int h0_law_jurors, .int h0_law_floors, .int h0_law_cases, .int h0_law_one, .int h0_law_dent, .int h0_law_seated, .ref h0_law_jurorName, .ref h0_law_floorName, .ref h0_law_caseName, .ref h0_law_pitch, .ref h0_law_length, .ref h0_law_hands, .ref h0_law_tune, .ref h0_law_dull, .ref h0_law_caseFloor, .ref h0_law_tuned]))]) (va_runV (As := [.int x_175]) (rest := []) ⟨hx, hb, hml, hown, hts⟩ (s_X11_writeLetter l D ca H.size h0 x_175 h0_tape h0_law h0_standing h0_saying h0_courtReader h0_bookReader h0_sentenceReader h0_bench h0_whatIf h0_history h0_images h0_latest h0_latestBook h0_latestRoll u_159 u_160 h_161) (cwV 1 hts gX11_roll_X11_writeLetter rfl rfl rfl (by decide +kernel) ⟨Nat.le_of_ble_eq_true rfl, Nat.le_of_ble_eq_true rfl⟩) (oPV (C := RX11) hK hP hD [5, 6] rfl (by decide) 0 rfl (ci := 10) rfl rfl) rfl rfl hl.1 rfl (lv_room (Nat.le_of_ble_eq_true rfl)) dX11_roll_118 ⟨Nat.le_of_ble_eq_true rfl, Nat.le_of_ble_eq_true rfl⟩) hP hD hS hA [5, 6] [0, 1, 2, 3, 4] rfl rfl (by decide) (by decide) (fun u H locs w_177 hP hD hS => ?_)
          obtain ⟨u_178, u_179⟩ := u
          have hP : va_P D vwCl [(aJ ca h0_law_caseName 5 F_h0_law_caseName), (h0_standing, .inr (9, [.int h0_standing_day, .int h0_standing_sits, .int h0_standing_holds, .int h0_standing_trials, .int h0_standing_triedToday, .ref h0_standing_dents, .ref h0_standing_drops, .ref h0_standing_how, .ref h0_standing_triedOn, .ref h0_standing_dropped, .ref h0_standing_heldOn])), (aI ca h0_standing_how 5 F_h0_standing_how), (aI ca h0_standing_dropped 5 F_h0_standing_dropped), (h0_law, .inr (5, [.int h0_law_jurors, .int h0_law_floors, .int h0_law_cases, .int h0_law_one, .int h0_law_dent, .int h0_law_seated, .ref h0_law_jurorName, .ref h0_law_floorName, .ref h0_law_caseName, .ref h0_law_pitch, .ref h0_law_length, .ref h0_law_hands, .ref h0_law_tune, .ref h0_law_dull, .ref h0_law_caseFloor, .ref h0_law_tuned])), (h0, .inr (10, [.ref h0_tape, .ref h0_law, .ref h0_standing, .ref h0_saying, .ref h0_courtReader, .ref h0_bookReader, .ref h0_sentenceReader, .ref h0_bench, .ref h0_whatIf, .ref h0_history, .ref h0_images, .ref h0_latest, .ref h0_latestBook, .ref h0_latestRoll, .int u_178])), (aC ca h0_latestRoll 40 u_179)] H := hP
          have hD : va_D A [(aJ ca h0_law_caseName 5 F_h0_law_caseName), (h0_standing, .inr (9, [.int h0_standing_day, .int h0_standing_sits, .int h0_standing_holds, .int h0_standing_trials, .int h0_standing_triedToday, .ref h0_standing_dents, .ref h0_standing_drops, .ref h0_standing_how, .ref h0_standing_triedOn, .ref h0_standing_dropped, .ref h0_standing_heldOn])), (aI ca h0_standing_how 5 F_h0_standing_how), (aI ca h0_standing_dropped 5 F_h0_standing_dropped), (h0_law, .inr (5, [.int h0_law_jurors, .int h0_law_floors, .int h0_law_cases, .int h0_law_one, .int h0_law_dent, .int h0_law_seated, .ref h0_law_jurorName, .ref h0_law_floorName, .ref h0_law_caseName, .ref h0_law_pitch, .ref h0_law_length, .ref h0_law_hands, .ref h0_law_tune, .ref h0_law_dull, .ref h0_law_caseFloor, .ref h0_law_tuned])), (h0, .inr (10, [.ref h0_tape, .ref h0_law, .ref h0_standing, .ref h0_saying, .ref h0_courtReader, .ref h0_bookReader, .ref h0_sentenceReader, .ref h0_bench, .ref h0_whatIf, .ref h0_history, .ref h0_images, .ref h0_latest, .ref h0_latestBook, .ref h0_latestRoll, .int u_178])), (aC ca h0_latestRoll 40 u_179)] := hD
          try dsimp only at w_177
          obtain ⟨h_180, h_181, h_182⟩ := w_177
          refine lv_aload_n hx hb dX11_roll_121 rfl (lv_at hl 1 rfl) ?_
          refine va_get (D := D) (ci := 10) (v := .int u_178) (C := RX11) (T := TX11) (N := 15) hx hb hts k2 hown hK.1 hP 5 rfl rfl 14 (by decide) k1 (fun _ h9 => h9) rfl dX11_roll_122 ?_
          exact oE_i hx hb hr rfl hlocks hP hD hS (u_178, u_179) [5, 4, 0, 6, 1, 2, 3] rfl (by decide) ⟨(rgw (lo := (-1)) (hi := 40) h_180 (by decide) (by decide)), (rgw (lo := 0) (hi := 40) h_180 (by decide) (by decide))⟩ (Nat.le_of_ble_eq_true rfl) (Nat.le_of_ble_eq_true rfl) dX11_roll_125
        · skip
          have o_183 : rl 0 10 r_164 := rl_nlt c_167
          have h_184 : rg 10 63 r_164 := rl_y o_183 (⟨by decide, by decide⟩ : rg 10 10 (10 : Int32)) h_166 (by decide) (by decide)
          refine lv_aload_n hx hb dX11_roll_97 rfl (lv_at hl 1 rfl) ?_
          refine lv_bipush (v := 48) hx hb dX11_roll_98 (by decide) ?_
          refine lv_iload_n hx hb dX11_roll_100 rfl (lv_at hl 0 rfl) ?_
          refine lv_bipush (v := 10) hx hb dX11_roll_101 (by decide) ?_
          refine lv_idiv hx hb dX11_roll_103 (by decide) ?_
          refine lv_topi (fun x_185 ex_185 => ?_)
          have h_186 : rg 0 6 x_185 := by rw [ex_185]; exact rg_div (k := 10) h_184 (by decide) (by decide) (by decide) (by decide) (by decide)
          refine lv_iadd hx hb dX11_roll_104 ?_
          refine lv_topi (fun x_187 ex_187 => ?_)
          have h_188 : rg 48 54 x_187 := by rw [ex_187]; exact rg_add (⟨by decide, by decide⟩ : rg 48 48 (48 : Int32)) h_186 (by decide) (by decide) (by decide) (by decide)
          have l_189 : lq x_187.toInt (x_185.toInt + 48) := lqm (by rw [ex_187]; have q := tadd (⟨by decide, by decide⟩ : rg 48 48 (48 : Int32)) h_186 (by decide) (by decide); have r0 := lqe (lqm (by decide) : lq (48 : Int32).toInt 48); omega)
          refine lv_i2c hx hb dX11_roll_105 rfl ?_
          refine lv_topi (fun x_190 ex_190 => ?_)
          refine oC_v (Wc := [(h0, .inr (10, [.ref h0_tape, .ref h0_law, .ref h0_standing, .ref h0_saying, .ref h0_courtReader, .ref h0_bookReader, .ref h0_sentenceReader, .ref h0_bench, .ref h0_whatIf, .ref h0_history, .ref h0_images, .ref h0_latest, .ref h0_latestBook, .ref h0_latestRoll, .int u_159])), (aC ca h0_latestRoll 40 u_160)]) (Wr := [(aJ ca h0_law_caseName 5 F_h0_law_caseName), (h0_standing, .inr (9, [.int h0_standing_day, .int h0_standing_sits, .int h0_standing_holds, .int h0_standing_trials, .int h0_standing_triedToday, .ref h0_standing_dents, .ref h0_standing_drops, .ref h0_standing_how, .ref h0_standing_triedOn, .ref h0_standing_dropped, .ref h0_standing_heldOn])), (aI ca h0_standing_how 5 F_h0_standing_how), (aI ca h0_standing_dropped 5 F_h0_standing_dropped), (h0_law, .inr (5, [.int h0_law_jurors, .int h0_law_floors, .int h0_law_cases, .int h0_law_one, .int h0_law_dent, .int h0_law_seated, .ref h0_law_jurorName, .ref h0_law_floorName, .ref h0_law_caseName, .ref h0_law_pitch, .ref h0_law_length, .ref h0_law_hands, .ref h0_law_tune, .ref h0_law_dull, .ref h0_law_caseFloor, .ref h0_law_tuned]))]) (va_runV (As := [.int x_190]) (rest := []) ⟨hx, hb, hml, hown, hts⟩ (s_X11_writeLetter l D ca H.size h0 x_190 h0_tape h0_law h0_standing h0_saying h0_courtReader h0_bookReader h0_sentenceReader h0_bench h0_whatIf h0_history h0_images h0_latest h0_latestBook h0_latestRoll u_159 u_160 h_161) (cwV 1 hts gX11_roll_X11_writeLetter rfl rfl rfl (by decide +kernel) ⟨Nat.le_of_ble_eq_true rfl, Nat.le_of_ble_eq_true rfl⟩) (oPV (C := RX11) hK hP hD [5, 6] rfl (by decide) 0 rfl (ci := 10) rfl rfl) rfl rfl hl.1 rfl (lv_room (Nat.le_of_ble_eq_true rfl)) dX11_roll_106 ⟨Nat.le_of_ble_eq_true rfl, Nat.le_of_ble_eq_true rfl⟩) hP hD hS hA [5, 6] [0, 1, 2, 3, 4] rfl rfl (by decide) (by decide) (fun u H locs w_192 hP hD hS => ?_)
          obtain ⟨u_193, u_194⟩ := u
          have hP : va_P D vwCl [(aJ ca h0_law_caseName 5 F_h0_law_caseName), (h0_standing, .inr (9, [.int h0_standing_day, .int h0_standing_sits, .int h0_standing_holds, .int h0_standing_trials, .int h0_standing_triedToday, .ref h0_standing_dents, .ref h0_standing_drops, .ref h0_standing_how, .ref h0_standing_triedOn, .ref h0_standing_dropped, .ref h0_standing_heldOn])), (aI ca h0_standing_how 5 F_h0_standing_how), (aI ca h0_standing_dropped 5 F_h0_standing_dropped), (h0_law, .inr (5, [.int h0_law_jurors, .int h0_law_floors, .int h0_law_cases, .int h0_law_one, .int h0_law_dent, .int h0_law_seated, .ref h0_law_jurorName, .ref h0_law_floorName, .ref h0_law_caseName, .ref h0_law_pitch, .ref h0_law_length, .ref h0_law_hands, .ref h0_law_tune, .ref h0_law_dull, .ref h0_law_caseFloor, .ref h0_law_tuned])), (h0, .inr (10, [.ref h0_tape, .ref h0_law, .ref h0_standing, .ref h0_saying, .ref h0_courtReader, .ref h0_bookReader, .ref h0_sentenceReader, .ref h0_bench, .ref h0_whatIf, .ref h0_history, .ref h0_images, .ref h0_latest, .ref h0_latestBook, .ref h0_latestRoll, .int u_193])), (aC ca h0_latestRoll 40 u_194)] H := hP
          have hD : va_D A [(aJ ca h0_law_caseName 5 F_h0_law_caseName), (h0_standing, .inr (9, [.int h0_standing_day, .int h0_standing_sits, .int h0_standing_holds, .int h0_standing_trials, .int h0_standing_triedToday, .ref h0_standing_dents, .ref h0_standing_drops, .ref h0_standing_how, .ref h0_standing_triedOn, .ref h0_standing_dropped, .ref h0_standing_heldOn])), (aI ca h0_standing_how 5 F_h0_standing_how), (aI ca h0_standing_dropped 5 F_h0_standing_dropped), (h0_law, .inr (5, [.int h0_law_jurors, .int h0_law_floors, .int h0_law_cases, .int h0_law_one, .int h0_law_dent, .int h0_law_seated, .ref h0_law_jurorName, .ref h0_law_floorName, .ref h0_law_caseName, .ref h0_law_pitch, .ref h0_law_length, .ref h0_law_hands, .ref h0_law_tune, .ref h0_law_dull, .ref h0_law_caseFloor, .ref h0_law_tuned])), (h0, .inr (10, [.ref h0_tape, .ref h0_law, .ref h0_standing, .ref h0_saying, .ref h0_courtReader, .ref h0_bookReader, .ref h0_sentenceReader, .ref h0_bench, .ref h0_whatIf, .ref h0_history, .ref h0_images, .ref h0_latest, .ref h0_latestBook, .ref h0_latestRoll, .int u_193])), (aC ca h0_latestRoll 40 u_194)] := hD
          try dsimp only at w_192
          obtain ⟨h_195, h_196, h_197⟩ := w_192
          refine lv_aload_n hx hb dX11_roll_109 rfl (lv_at hl 1 rfl) ?_
          refine lv_bipush (v := 48) hx hb dX11_roll_110 (by decide) ?_
          refine lv_iload_n hx hb dX11_roll_112 rfl (lv_at hl 0 rfl) ?_
          refine lv_bipush (v := 10) hx hb dX11_roll_113 (by decide) ?_
          refine lv_irem hx hb dX11_roll_115 (by decide) ?_
          refine lv_topi (fun x_198 ex_198 => ?_)
          have h_199 : rg 0 9 x_198 := by rw [ex_198]; exact rg_rem h_184 (⟨by decide, by decide⟩ : rg 10 10 (10 : Int32)) (by decide) (by decide) (by decide) (by decide)
          refine lv_iadd hx hb dX11_roll_116 ?_
          refine lv_topi (fun x_200 ex_200 => ?_)
          have h_201 : rg 48 57 x_200 := by rw [ex_200]; exact rg_add (⟨by decide, by decide⟩ : rg 48 48 (48 : Int32)) h_199 (by decide) (by decide) (by decide) (by decide)
          have l_202 : lq x_200.toInt (x_198.toInt + 48) := lqm (by rw [ex_200]; have q := tadd (⟨by decide, by decide⟩ : rg 48 48 (48 : Int32)) h_199 (by decide) (by decide); have r0 := lqe (lqm (by decide) : lq (48 : Int32).toInt 48); omega)
          refine lv_i2c hx hb dX11_roll_117 rfl ?_
          refine lv_topi (fun x_203 ex_203 => ?_)
          refine oC_v (Wc := [(h0, .inr (10, [.ref h0_tape, .ref h0_law, .ref h0_standing, .ref h0_saying, .ref h0_courtReader, .ref h0_bookReader, .ref h0_sentenceReader, .ref h0_bench, .ref h0_whatIf, .ref h0_history, .ref h0_images, .ref h0_latest, .ref h0_latestBook, .ref h0_latestRoll, .int u_193])), (aC ca h0_latestRoll 40 u_194)]) (Wr := [(aJ ca h0_law_caseName 5 F_h0_law_caseName), (h0_standing, .inr (9, [.int h0_standing_day, .int h0_standing_sits, .int h0_standing_holds, .int h0_standing_trials, .int h0_standing_triedToday, .ref h0_standing_dents, .ref h0_standing_drops, .ref h0_standing_how, .ref h0_standing_triedOn, .ref h0_standing_dropped, .ref h0_standing_heldOn])), (aI ca h0_standing_how 5 F_h0_standing_how), (aI ca h0_standing_dropped 5 F_h0_standing_dropped), (h0_law, .inr (5, [.int h0_law_jurors, .int h0_law_floors, .int h0_law_cases, .int h0_law_one, .int h0_law_dent, .int h0_law_seated, .ref h0_law_jurorName, .ref h0_law_floorName, .ref h0_law_caseName, .ref h0_law_pitch, .ref h0_law_length, .ref h0_law_hands, .ref h0_law_tune, .ref h0_law_dull, .ref h0_law_caseFloor, .ref h0_law_tuned]))]) (va_runV (As := [.int x_203]) (rest := []) ⟨hx, hb, hml, hown, hts⟩ (s_X11_writeLetter l D ca H.size h0 x_203 h0_tape h0_law h0_standing h0_saying h0_courtReader h0_bookReader h0_sentenceReader h0_bench h0_whatIf h0_history h0_images h0_latest h0_latestBook h0_latestRoll u_193 u_194 (rgw (lo := 0) (hi := 40) h_195 (by decide) (by decide))) (cwV 1 hts gX11_roll_X11_writeLetter rfl rfl rfl (by decide +kernel) ⟨Nat.le_of_ble_eq_true rfl, Nat.le_of_ble_eq_true rfl⟩) (oPV (C := RX11) hK hP hD [5, 6] rfl (by decide) 0 rfl (ci := 10) rfl rfl) rfl rfl hl.1 rfl (lv_room (Nat.le_of_ble_eq_true rfl)) dX11_roll_118 ⟨Nat.le_of_ble_eq_true rfl, Nat.le_of_ble_eq_true rfl⟩) hP hD hS hA [5, 6] [0, 1, 2, 3, 4] rfl rfl (by decide) (by decide) (fun u H locs w_205 hP hD hS => ?_)
          obtain ⟨u_206, u_207⟩ := u
          have hP : va_P D vwCl [(aJ ca h0_law_caseName 5 F_h0_law_caseName), (h0_standing, .inr (9, [.int h0_standing_day, .int h0_standing_sits, .int h0_standing_holds, .int h0_standing_trials, .int h0_standing_triedToday, .ref h0_standing_dents, .ref h0_standing_drops, .ref h0_standing_how, .ref h0_standing_triedOn, .ref h0_standing_dropped, .ref h0_standing_heldOn])), (aI ca h0_standing_how 5 F_h0_standing_how), (aI ca h0_standing_dropped 5 F_h0_standing_dropped), (h0_law, .inr (5, [.int h0_law_jurors, .int h0_law_floors, .int h0_law_cases, .int h0_law_one, .int h0_law_dent, .int h0_law_seated, .ref h0_law_jurorName, .ref h0_law_floorName, .ref h0_law_caseName, .ref h0_law_pitch, .ref h0_law_length, .ref h0_law_hands, .ref h0_law_tune, .ref h0_law_dull, .ref h0_law_caseFloor, .ref h0_law_tuned])), (h0, .inr (10, [.ref h0_tape, .ref h0_law, .ref h0_standing, .ref h0_saying, .ref h0_courtReader, .ref h0_bookReader, .ref h0_sentenceReader, .ref h0_bench, .ref h0_whatIf, .ref h0_history, .ref h0_images, .ref h0_latest, .ref h0_latestBook, .ref h0_latestRoll, .int u_206])), (aC ca h0_latestRoll 40 u_207)] H := hP
          have hD : va_D A [(aJ ca h0_law_caseName 5 F_h0_law_caseName), (h0_standing, .inr (9, [.int h0_standing_day, .int h0_standing_sits, .int h0_standing_holds, .int h0_standing_trials, .int h0_standing_triedToday, .ref h0_standing_dents, .ref h0_standing_drops, .ref h0_standing_how, .ref h0_standing_triedOn, .ref h0_standing_dropped, .ref h0_standing_heldOn])), (aI ca h0_standing_how 5 F_h0_standing_how), (aI ca h0_standing_dropped 5 F_h0_standing_dropped), (h0_law, .inr (5, [.int h0_law_jurors, .int h0_law_floors, .int h0_law_cases, .int h0_law_one, .int h0_law_dent, .int h0_law_seated, .ref h0_law_jurorName, .ref h0_law_floorName, .ref h0_law_caseName, .ref h0_law_pitch, .ref h0_law_length, .ref h0_law_hands, .ref h0_law_tune, .ref h0_law_dull, .ref h0_law_caseFloor, .ref h0_law_tuned])), (h0, .inr (10, [.ref h0_tape, .ref h0_law, .ref h0_standing, .ref h0_saying, .ref h0_courtReader, .ref h0_bookReader, .ref h0_sentenceReader, .ref h0_bench, .ref h0_whatIf, .ref h0_history, .ref h0_images, .ref h0_latest, .ref h0_latestBook, .ref h0_latestRoll, .int u_206])), (aC ca h0_latestRoll 40 u_207)] := hD
          try dsimp only at w_205
          obtain ⟨h_208, h_209, h_210⟩ := w_205
          refine lv_aload_n hx hb dX11_roll_121 rfl (lv_at hl 1 rfl) ?_
          refine va_get (D := D) (ci := 10) (v := .int u_206) (C := RX11) (T := TX11) (N := 15) hx hb hts k2 hown hK.1 hP 5 rfl rfl 14 (by decide) k1 (fun _ h9 => h9) rfl dX11_roll_122 ?_
          exact oE_i hx hb hr rfl hlocks hP hD hS (u_206, u_207) [5, 4, 0, 6, 1, 2, 3] rfl (by decide) ⟨(rgw (lo := (-1)) (hi := 40) h_208 (by decide) (by decide)), (rgw (lo := 0) (hi := 40) h_208 (by decide) (by decide))⟩ (Nat.le_of_ble_eq_true rfl) (Nat.le_of_ble_eq_true rfl) dX11_roll_125
      · skip
        have o_211 : rl 0 x_154 1 := rl_eq c_156
        have h_212 : rg (-2147483648) 1 x_154 := rl_x o_211 (rga x_154) (⟨by decide, by decide⟩ : rg 1 1 (1 : Int32)) (by decide) (by decide)
        have o_213 : rl 0 1 x_154 := rl_eq c_156.symm
        have h_214 : rg 1 1 x_154 := rl_y o_213 (⟨by decide, by decide⟩ : rg 1 1 (1 : Int32)) h_212 (by decide) (by decide)
        refine va_ldcwS hx hb hown hT.2.1.2.1 dX11_roll_66 ?_
        refine lv_goto (tgt := 75) hx hb dX11_roll_69 (by decide) ?_
        refine oC_v (Wc := [(h0, .inr (10, [.ref h0_tape, .ref h0_law, .ref h0_standing, .ref h0_saying, .ref h0_courtReader, .ref h0_bookReader, .ref h0_sentenceReader, .ref h0_bench, .ref h0_whatIf, .ref h0_history, .ref h0_images, .ref h0_latest, .ref h0_latestBook, .ref h0_latestRoll, .int u_150])), (aC ca h0_latestRoll 40 u_151)]) (Wr := [(aJ ca h0_law_caseName 5 F_h0_law_caseName), (h0_standing, .inr (9, [.int h0_standing_day, .int h0_standing_sits, .int h0_standing_holds, .int h0_standing_trials, .int h0_standing_triedToday, .ref h0_standing_dents, .ref h0_standing_drops, .ref h0_standing_how, .ref h0_standing_triedOn, .ref h0_standing_dropped, .ref h0_standing_heldOn])), (aI ca h0_standing_how 5 F_h0_standing_how), (aI ca h0_standing_dropped 5 F_h0_standing_dropped), (h0_law, .inr (5, [.int h0_law_jurors, .int h0_law_floors, .int h0_law_cases, .int h0_law_one, .int h0_law_dent, .int h0_law_seated, .ref h0_law_jurorName, .ref h0_law_floorName, .ref h0_law_caseName, .ref h0_law_pitch, .ref h0_law_length, .ref h0_law_hands, .ref h0_law_tune, .ref h0_law_dull, .ref h0_law_caseFloor, .ref h0_law_tuned]))]) (va_runV (As := [.ref (sd 1)]) (rest := []) ⟨hx, hb, hml, hown, hts⟩ (s_X11_writeText_1 l D ca ad wt sd H.size h0 h0_tape h0_law h0_standing h0_saying h0_courtReader h0_bookReader h0_sentenceReader h0_bench h0_whatIf h0_history h0_images h0_latest h0_latestBook h0_latestRoll u_150 u_151 h_152) (cwV 1 hts gX11_roll_X11_writeText rfl rfl rfl (by decide +kernel) ⟨Nat.le_of_ble_eq_true rfl, Nat.le_of_ble_eq_true rfl⟩) (tPV (C := RX11) hT hZ hS hA hK hP hD [5, 6] rfl (by decide) 0 rfl (ci := 10) rfl rfl) rfl rfl hl.1 rfl (lv_room (Nat.le_of_ble_eq_true rfl)) dX11_roll_75 ⟨Nat.le_of_ble_eq_true rfl, Nat.le_of_ble_eq_true rfl⟩) hP hD hS hA [5, 6] [0, 1, 2, 3, 4] rfl rfl (by decide) (by decide) (fun u H locs w_216 hP hD hS => ?_)
        obtain ⟨u_217, u_218⟩ := u
        have hP : va_P D vwCl [(aJ ca h0_law_caseName 5 F_h0_law_caseName), (h0_standing, .inr (9, [.int h0_standing_day, .int h0_standing_sits, .int h0_standing_holds, .int h0_standing_trials, .int h0_standing_triedToday, .ref h0_standing_dents, .ref h0_standing_drops, .ref h0_standing_how, .ref h0_standing_triedOn, .ref h0_standing_dropped, .ref h0_standing_heldOn])), (aI ca h0_standing_how 5 F_h0_standing_how), (aI ca h0_standing_dropped 5 F_h0_standing_dropped), (h0_law, .inr (5, [.int h0_law_jurors, .int h0_law_floors, .int h0_law_cases, .int h0_law_one, .int h0_law_dent, .int h0_law_seated, .ref h0_law_jurorName, .ref h0_law_floorName, .ref h0_law_caseName, .ref h0_law_pitch, .ref h0_law_length, .ref h0_law_hands, .ref h0_law_tune, .ref h0_law_dull, .ref h0_law_caseFloor, .ref h0_law_tuned])), (h0, .inr (10, [.ref h0_tape, .ref h0_law, .ref h0_standing, .ref h0_saying, .ref h0_courtReader, .ref h0_bookReader, .ref h0_sentenceReader, .ref h0_bench, .ref h0_whatIf, .ref h0_history, .ref h0_images, .ref h0_latest, .ref h0_latestBook, .ref h0_latestRoll, .int u_217])), (aC ca h0_latestRoll 40 u_218)] H := hP
        have hD : va_D A [(aJ ca h0_law_caseName 5 F_h0_law_caseName), (h0_standing, .inr (9, [.int h0_standing_day, .int h0_standing_sits, .int h0_standing_holds, .int h0_standing_trials, .int h0_standing_triedToday, .ref h0_standing_dents, .ref h0_standing_drops, .ref h0_standing_how, .ref h0_standing_triedOn, .ref h0_standing_dropped, .ref h0_standing_heldOn])), (aI ca h0_standing_how 5 F_h0_standing_how), (aI ca h0_standing_dropped 5 F_h0_standing_dropped), (h0_law, .inr (5, [.int h0_law_jurors, .int h0_law_floors, .int h0_law_cases, .int h0_law_one, .int h0_law_dent, .int h0_law_seated, .ref h0_law_jurorName, .ref h0_law_floorName, .ref h0_law_caseName, .ref h0_law_pitch, .ref h0_law_length, .ref h0_law_hands, .ref h0_law_tune, .ref h0_law_dull, .ref h0_law_caseFloor, .ref h0_law_tuned])), (h0, .inr (10, [.ref h0_tape, .ref h0_law, .ref h0_standing, .ref h0_saying, .ref h0_courtReader, .ref h0_bookReader, .ref h0_sentenceReader, .ref h0_bench, .ref h0_whatIf, .ref h0_history, .ref h0_images, .ref h0_latest, .ref h0_latestBook, .ref h0_latestRoll, .int u_217])), (aC ca h0_latestRoll 40 u_218)] := hD
        try dsimp only at w_216
        obtain ⟨h_219, h_220⟩ := w_216
        refine lv_aload_n hx hb dX11_roll_78 rfl (lv_at hl 0 rfl) ?_
        refine va_get (D := D) (ci := 10) (v := .ref h0_standing) (C := RX11) (T := TX11) (N := 15) hx hb hts k2 hown hK.1 hP 5 rfl rfl 2 (by decide) k6 (fun _ h9 => h9) rfl dX11_roll_79 ?_
        refine va_get (D := D) (ci := 9) (v := .ref h0_standing_dropped) (C := RX9) (T := TX9) (N := 11) hx hb hts k8 hown hK.1 hP 1 rfl rfl 9 (by decide) k9 (fun _ h9 => h9) rfl dX11_roll_82 ?_
        refine lv_iload_n hx hb dX11_roll_85 rfl (lv_at hl 1 rfl) ?_
        refine va_iald hx hb hK.1 hP 3 0 rfl rfl (rg_in h_144 (by decide) (by decide)) dX11_roll_86 ?_
        refine lv_topi (fun x_221 ex_221 => ?_)
        refine oC_i (Wc := []) (Wr := [(aJ ca h0_law_caseName 5 F_h0_law_caseName), (h0_standing, .inr (9, [.int h0_standing_day, .int h0_standing_sits, .int h0_standing_holds, .int h0_standing_trials, .int h0_standing_triedToday, .ref h0_standing_dents, .ref h0_standing_drops, .ref h0_standing_how, .ref h0_standing_triedOn, .ref h0_standing_dropped, .ref h0_standing_heldOn])), (aI ca h0_standing_how 5 F_h0_standing_how), (aI ca h0_standing_dropped 5 F_h0_standing_dropped), (h0_law, .inr (5, [.int h0_law_jurors, .int h0_law_floors, .int h0_law_cases, .int h0_law_one, .int h0_law_dent, .int h0_law_seated, .ref h0_law_jurorName, .ref h0_law_floorName, .ref h0_law_caseName, .ref h0_law_pitch, .ref h0_law_length, .ref h0_law_hands, .ref h0_law_tune, .ref h0_law_dull, .ref h0_law_caseFloor, .ref h0_law_tuned])), (h0, .inr (10, [.ref h0_tape, .ref h0_law, .ref h0_standing, .ref h0_saying, .ref h0_courtReader, .ref h0_bookReader, .ref h0_sentenceReader, .ref h0_bench, .ref h0_whatIf, .ref h0_history, .ref h0_images, .ref h0_latest, .ref h0_latestBook, .ref h0_latestRoll, .int u_217])), (aC ca h0_latestRoll 40 u_218)]) (va_runS (As := [.int x_221]) (rest := []) ⟨hx, hb, hml, hown, hts⟩ (s_J6_bitCount_0f7a4 l D ca H.size x_221) (va_cwS 1 hts gX11_roll_J6_bitCount_0f7a4 rfl rfl rfl (by decide +kernel) ⟨Nat.le_of_ble_eq_true rfl, Nat.le_of_ble_eq_true rfl⟩) (oPS hK hP hD [] rfl (by decide)) rfl rfl hl.1 rfl (lv_room (Nat.le_of_ble_eq_true rfl)) dX11_roll_87 ⟨Nat.le_of_ble_eq_true rfl, Nat.le_of_ble_eq_true rfl⟩) hP hD hS hA [] [0, 1, 2, 3, 4, 5, 6] rfl rfl (by decide) (by decide) (fun r_222 u H locs w_223 hP hD hS => ?_)
        obtain ⟨⟩ := u
        have hP : va_P D vwCl [(aJ ca h0_law_caseName 5 F_h0_law_caseName), (h0_standing, .inr (9, [.int h0_standing_day, .int h0_standing_sits, .int h0_standing_holds, .int h0_standing_trials, .int h0_standing_triedToday, .ref h0_standing_dents, .ref h0_standing_drops, .ref h0_standing_how, .ref h0_standing_triedOn, .ref h0_standing_dropped, .ref h0_standing_heldOn])), (aI ca h0_standing_how 5 F_h0_standing_how), (aI ca h0_standing_dropped 5 F_h0_standing_dropped), (h0_law, .inr (5, [.int h0_law_jurors, .int h0_law_floors, .int h0_law_cases, .int h0_law_one, .int h0_law_dent, .int h0_law_seated, .ref h0_law_jurorName, .ref h0_law_floorName, .ref h0_law_caseName, .ref h0_law_pitch, .ref h0_law_length, .ref h0_law_hands, .ref h0_law_tune, .ref h0_law_dull, .ref h0_law_caseFloor, .ref h0_law_tuned])), (h0, .inr (10, [.ref h0_tape, .ref h0_law, .ref h0_standing, .ref h0_saying, .ref h0_courtReader, .ref h0_bookReader, .ref h0_sentenceReader, .ref h0_bench, .ref h0_whatIf, .ref h0_history, .ref h0_images, .ref h0_latest, .ref h0_latestBook, .ref h0_latestRoll, .int u_217])), (aC ca h0_latestRoll 40 u_218)] H := hP
        have hD : va_D A [(aJ ca h0_law_caseName 5 F_h0_law_caseName), (h0_standing, .inr (9, [.int h0_standing_day, .int h0_standing_sits, .int h0_standing_holds, .int h0_standing_trials, .int h0_standing_triedToday, .ref h0_standing_dents, .ref h0_standing_drops, .ref h0_standing_how, .ref h0_standing_triedOn, .ref h0_standing_dropped, .ref h0_standing_heldOn])), (aI ca h0_standing_how 5 F_h0_standing_how), (aI ca h0_standing_dropped 5 F_h0_standing_dropped), (h0_law, .inr (5, [.int h0_law_jurors, .int h0_law_floors, .int h0_law_cases, .int h0_law_one, .int h0_law_dent, .int h0_law_seated, .ref h0_law_jurorName, .ref h0_law_floorName, .ref h0_law_caseName, .ref h0_law_pitch, .ref h0_law_length, .ref h0_law_hands, .ref h0_law_tune, .ref h0_law_dull, .ref h0_law_caseFloor, .ref h0_law_tuned])), (h0, .inr (10, [.ref h0_tape, .ref h0_law, .ref h0_standing, .ref h0_saying, .ref h0_courtReader, .ref h0_bookReader, .ref h0_sentenceReader, .ref h0_bench, .ref h0_whatIf, .ref h0_history, .ref h0_images, .ref h0_latest, .ref h0_latestBook, .ref h0_latestRoll, .int u_217])), (aC ca h0_latestRoll 40 u_218)] := hD
        try dsimp only at w_223
        have h_224 := w_223
        refine lv_istore_n (lv' := [(2, .int r_222), (0, .ref h0), (1, .int a1)]) hx hb dX11_roll_90 rfl hl (by decide) rfl (fun ls hl => ?_)
        refine lv_iload_n hx hb dX11_roll_91 rfl (lv_at hl 0 rfl) ?_
        refine lv_bipush (v := 10) hx hb dX11_roll_92 (by decide) ?_
        refine lv_icmp_lt (tgt := 109) hx hb dX11_roll_94 (by decide) (fun c_225 => ?_) (fun c_225 => ?_)
        · skip
          have o_226 : rl 1 r_222 10 := rl_lt c_225
          have h_227 : rg 0 9 r_222 := rl_x o_226 h_224 (⟨by decide, by decide⟩ : rg 10 10 (10 : Int32)) (by decide) (by decide)
          refine lv_aload_n hx hb dX11_roll_109 rfl (lv_at hl 1 rfl) ?_
          refine lv_bipush (v := 48) hx hb dX11_roll_110 (by decide) ?_
          refine lv_iload_n hx hb dX11_roll_112 rfl (lv_at hl 0 rfl) ?_
          refine lv_bipush (v := 10) hx hb dX11_roll_113 (by decide) ?_
          refine lv_irem hx hb dX11_roll_115 (by decide) ?_
          refine lv_topi (fun x_228 ex_228 => ?_)
          have h_229 : rg 0 9 x_228 := by rw [ex_228]; exact rg_rem h_227 (⟨by decide, by decide⟩ : rg 10 10 (10 : Int32)) (by decide) (by decide) (by decide) (by decide)
          refine lv_iadd hx hb dX11_roll_116 ?_
          refine lv_topi (fun x_230 ex_230 => ?_)
          have h_231 : rg 48 57 x_230 := by rw [ex_230]; exact rg_add (⟨by decide, by decide⟩ : rg 48 48 (48 : Int32)) h_229 (by decide) (by decide) (by decide) (by decide)
          have l_232 : lq x_230.toInt (x_228.toInt + 48) := lqm (by rw [ex_230]; have q := tadd (⟨by decide, by decide⟩ : rg 48 48 (48 : Int32)) h_229 (by decide) (by decide); have r0 := lqe (lqm (by decide) : lq (48 : Int32).toInt 48); omega)
          refine lv_i2c hx hb dX11_roll_117 rfl ?_
          refine lv_topi (fun x_233 ex_233 => ?_)
          refine oC_v (Wc := [(h0, .inr (10, [.ref h0_tape, .ref h0_law, .ref h0_standing, .ref h0_saying, .ref h0_courtReader, .ref h0_bookReader, .ref h0_sentenceReader, .ref h0_bench, .ref h0_whatIf, .ref h0_history, .ref h0_images, .ref h0_latest, .ref h0_latestBook, .ref h0_latestRoll, .int u_217])), (aC ca h0_latestRoll 40 u_218)]) (Wr := [(aJ ca h0_law_caseName 5 F_h0_law_caseName), (h0_standing, .inr (9, [.int h0_standing_day, .int h0_standing_sits, .int h0_standing_holds, .int h0_standing_trials, .int h0_standing_triedToday, .ref h0_standing_dents, .ref h0_standing_drops, .ref h0_standing_how, .ref h0_standing_triedOn, .ref h0_standing_dropped, .ref h0_standing_heldOn])), (aI ca h0_standing_how 5 F_h0_standing_how), (aI ca h0_standing_dropped 5 F_h0_standing_dropped), (h0_law, .inr (5, [.int h0_law_jurors, .int h0_law_floors, .int h0_law_cases, .int h0_law_one, .int h0_law_dent, .int h0_law_seated, .ref h0_law_jurorName, .ref h0_law_floorName, .ref h0_law_caseName, .ref h0_law_pitch, .ref h0_law_length, .ref h0_law_hands, .ref h0_law_tune, .ref h0_law_dull, .ref h0_law_caseFloor, .ref h0_law_tuned]))]) (va_runV (As := [.int x_233]) (rest := []) ⟨hx, hb, hml, hown, hts⟩ (s_X11_writeLetter l D ca H.size h0 x_233 h0_tape h0_law h0_standing h0_saying h0_courtReader h0_bookReader h0_sentenceReader h0_bench h0_whatIf h0_history h0_images h0_latest h0_latestBook h0_latestRoll u_217 u_218 h_219) (cwV 1 hts gX11_roll_X11_writeLetter rfl rfl rfl (by decide +kernel) ⟨Nat.le_of_ble_eq_true rfl, Nat.le_of_ble_eq_true rfl⟩) (oPV (C := RX11) hK hP hD [5, 6] rfl (by decide) 0 rfl (ci := 10) rfl rfl) rfl rfl hl.1 rfl (lv_room (Nat.le_of_ble_eq_true rfl)) dX11_roll_118 ⟨Nat.le_of_ble_eq_true rfl, Nat.le_of_ble_eq_true rfl⟩) hP hD hS hA [5, 6] [0, 1, 2, 3, 4] rfl rfl (by decide) (by decide) (fun u H locs w_235 hP hD hS => ?_)
          obtain ⟨u_236, u_237⟩ := u
          have hP : va_P D vwCl [(aJ ca h0_law_caseName 5 F_h0_law_caseName), (h0_standing, .inr (9, [.int h0_standing_day, .int h0_standing_sits, .int h0_standing_holds, .int h0_standing_trials, .int h0_standing_triedToday, .ref h0_standing_dents, .ref h0_standing_drops, .ref h0_standing_how, .ref h0_standing_triedOn, .ref h0_standing_dropped, .ref h0_standing_heldOn])), (aI ca h0_standing_how 5 F_h0_standing_how), (aI ca h0_standing_dropped 5 F_h0_standing_dropped), (h0_law, .inr (5, [.int h0_law_jurors, .int h0_law_floors, .int h0_law_cases, .int h0_law_one, .int h0_law_dent, .int h0_law_seated, .ref h0_law_jurorName, .ref h0_law_floorName, .ref h0_law_caseName, .ref h0_law_pitch, .ref h0_law_length, .ref h0_law_hands, .ref h0_law_tune, .ref h0_law_dull, .ref h0_law_caseFloor, .ref h0_law_tuned])), (h0, .inr (10, [.ref h0_tape, .ref h0_law, .ref h0_standing, .ref h0_saying, .ref h0_courtReader, .ref h0_bookReader, .ref h0_sentenceReader, .ref h0_bench, .ref h0_whatIf, .ref h0_history, .ref h0_images, .ref h0_latest, .ref h0_latestBook, .ref h0_latestRoll, .int u_236])), (aC ca h0_latestRoll 40 u_237)] H := hP
          have hD : va_D A [(aJ ca h0_law_caseName 5 F_h0_law_caseName), (h0_standing, .inr (9, [.int h0_standing_day, .int h0_standing_sits, .int h0_standing_holds, .int h0_standing_trials, .int h0_standing_triedToday, .ref h0_standing_dents, .ref h0_standing_drops, .ref h0_standing_how, .ref h0_standing_triedOn, .ref h0_standing_dropped, .ref h0_standing_heldOn])), (aI ca h0_standing_how 5 F_h0_standing_how), (aI ca h0_standing_dropped 5 F_h0_standing_dropped), (h0_law, .inr (5, [.int h0_law_jurors, .int h0_law_floors, .int h0_law_cases, .int h0_law_one, .int h0_law_dent, .int h0_law_seated, .ref h0_law_jurorName, .ref h0_law_floorName, .ref h0_law_caseName, .ref h0_law_pitch, .ref h0_law_length, .ref h0_law_hands, .ref h0_law_tune, .ref h0_law_dull, .ref h0_law_caseFloor, .ref h0_law_tuned])), (h0, .inr (10, [.ref h0_tape, .ref h0_law, .ref h0_standing, .ref h0_saying, .ref h0_courtReader, .ref h0_bookReader, .ref h0_sentenceReader, .ref h0_bench, .ref h0_whatIf, .ref h0_history, .ref h0_images, .ref h0_latest, .ref h0_latestBook, .ref h0_latestRoll, .int u_236])), (aC ca h0_latestRoll 40 u_237)] := hD
          try dsimp only at w_235
          obtain ⟨h_238, h_239, h_240⟩ := w_235
          refine lv_aload_n hx hb dX11_roll_121 rfl (lv_at hl 1 rfl) ?_
          refine va_get (D := D) (ci := 10) (v := .int u_236) (C := RX11) (T := TX11) (N := 15) hx hb hts k2 hown hK.1 hP 5 rfl rfl 14 (by decide) k1 (fun _ h9 => h9) rfl dX11_roll_122 ?_
          exact oE_i hx hb hr rfl hlocks hP hD hS (u_236, u_237) [5, 4, 0, 6, 1, 2, 3] rfl (by decide) ⟨(rgw (lo := (-1)) (hi := 40) h_238 (by decide) (by decide)), (rgw (lo := 0) (hi := 40) h_238 (by decide) (by decide))⟩ (Nat.le_of_ble_eq_true rfl) (Nat.le_of_ble_eq_true rfl) dX11_roll_125
        · skip
          have o_241 : rl 0 10 r_222 := rl_nlt c_225
          have h_242 : rg 10 63 r_222 := rl_y o_241 (⟨by decide, by decide⟩ : rg 10 10 (10 : Int32)) h_224 (by decide) (by decide)
          refine lv_aload_n hx hb dX11_roll_97 rfl (lv_at hl 1 rfl) ?_
          refine lv_bipush (v := 48) hx hb dX11_roll_98 (by decide) ?_
          refine lv_iload_n hx hb dX11_roll_100 rfl (lv_at hl 0 rfl) ?_
          refine lv_bipush (v := 10) hx hb dX11_roll_101 (by decide) ?_
          refine lv_idiv hx hb dX11_roll_103 (by decide) ?_
          refine lv_topi (fun x_243 ex_243 => ?_)
          have h_244 : rg 0 6 x_243 := by rw [ex_243]; exact rg_div (k := 10) h_242 (by decide) (by decide) (by decide) (by decide) (by decide)
          refine lv_iadd hx hb dX11_roll_104 ?_
          refine lv_topi (fun x_245 ex_245 => ?_)
          have h_246 : rg 48 54 x_245 := by rw [ex_245]; exact rg_add (⟨by decide, by decide⟩ : rg 48 48 (48 : Int32)) h_244 (by decide) (by decide) (by decide) (by decide)
          have l_247 : lq x_245.toInt (x_243.toInt + 48) := lqm (by rw [ex_245]; have q := tadd (⟨by decide, by decide⟩ : rg 48 48 (48 : Int32)) h_244 (by decide) (by decide); have r0 := lqe (lqm (by decide) : lq (48 : Int32).toInt 48); omega)
          refine lv_i2c hx hb dX11_roll_105 rfl ?_
          refine lv_topi (fun x_248 ex_248 => ?_)
          refine oC_v (Wc := [(h0, .inr (10, [.ref h0_tape, .ref h0_law, .ref h0_standing, .ref h0_saying, .ref h0_courtReader, .ref h0_bookReader, .ref h0_sentenceReader, .ref h0_bench, .ref h0_whatIf, .ref h0_history, .ref h0_images, .ref h0_latest, .ref h0_latestBook, .ref h0_latestRoll, .int u_217])), (aC ca h0_latestRoll 40 u_218)]) (Wr := [(aJ ca h0_law_caseName 5 F_h0_law_caseName), (h0_standing, .inr (9, [.int h0_standing_day, .int h0_standing_sits, .int h0_standing_holds, .int h0_standing_trials, .int h0_standing_triedToday, .ref h0_standing_dents, .ref h0_standing_drops, .ref h0_standing_how, .ref h0_standing_triedOn, .ref h0_standing_dropped, .ref h0_standing_heldOn])), (aI ca h0_standing_how 5 F_h0_standing_how), (aI ca h0_standing_dropped 5 F_h0_standing_dropped), (h0_law, .inr (5, [.int h0_law_jurors, .int h0_law_floors, .int h0_law_cases, .int h0_law_one, .int h0_law_dent, .int h0_law_seated, .ref h0_law_jurorName, .ref h0_law_floorName, .ref h0_law_caseName, .ref h0_law_pitch, .ref h0_law_length, .ref h0_law_hands, .ref h0_law_tune, .ref h0_law_dull, .ref h0_law_caseFloor, .ref h0_law_tuned]))]) (va_runV (As := [.int x_248]) (rest := []) ⟨hx, hb, hml, hown, hts⟩ (s_X11_writeLetter l D ca H.size h0 x_248 h0_tape h0_law h0_standing h0_saying h0_courtReader h0_bookReader h0_sentenceReader h0_bench h0_whatIf h0_history h0_images h0_latest h0_latestBook h0_latestRoll u_217 u_218 h_219) (cwV 1 hts gX11_roll_X11_writeLetter rfl rfl rfl (by decide +kernel) ⟨Nat.le_of_ble_eq_true rfl, Nat.le_of_ble_eq_true rfl⟩) (oPV (C := RX11) hK hP hD [5, 6] rfl (by decide) 0 rfl (ci := 10) rfl rfl) rfl rfl hl.1 rfl (lv_room (Nat.le_of_ble_eq_true rfl)) dX11_roll_106 ⟨Nat.le_of_ble_eq_true rfl, Nat.le_of_ble_eq_true rfl⟩) hP hD hS hA [5, 6] [0, 1, 2, 3, 4] rfl rfl (by decide) (by decide) (fun u H locs w_250 hP hD hS => ?_)
          obtain ⟨u_251, u_252⟩ := u
          have hP : va_P D vwCl [(aJ ca h0_law_caseName 5 F_h0_law_caseName), (h0_standing, .inr (9, [.int h0_standing_day, .int h0_standing_sits, .int h0_standing_holds, .int h0_standing_trials, .int h0_standing_triedToday, .ref h0_standing_dents, .ref h0_standing_drops, .ref h0_standing_how, .ref h0_standing_triedOn, .ref h0_standing_dropped, .ref h0_standing_heldOn])), (aI ca h0_standing_how 5 F_h0_standing_how), (aI ca h0_standing_dropped 5 F_h0_standing_dropped), (h0_law, .inr (5, [.int h0_law_jurors, .int h0_law_floors, .int h0_law_cases, .int h0_law_one, .int h0_law_dent, .int h0_law_seated, .ref h0_law_jurorName, .ref h0_law_floorName, .ref h0_law_caseName, .ref h0_law_pitch, .ref h0_law_length, .ref h0_law_hands, .ref h0_law_tune, .ref h0_law_dull, .ref h0_law_caseFloor, .ref h0_law_tuned])), (h0, .inr (10, [.ref h0_tape, .ref h0_law, .ref h0_standing, .ref h0_saying, .ref h0_courtReader, .ref h0_bookReader, .ref h0_sentenceReader, .ref h0_bench, .ref h0_whatIf, .ref h0_history, .ref h0_images, .ref h0_latest, .ref h0_latestBook, .ref h0_latestRoll, .int u_251])), (aC ca h0_latestRoll 40 u_252)] H := hP
          have hD : va_D A [(aJ ca h0_law_caseName 5 F_h0_law_caseName), (h0_standing, .inr (9, [.int h0_standing_day, .int h0_standing_sits, .int h0_standing_holds, .int h0_standing_trials, .int h0_standing_triedToday, .ref h0_standing_dents, .ref h0_standing_drops, .ref h0_standing_how, .ref h0_standing_triedOn, .ref h0_standing_dropped, .ref h0_standing_heldOn])), (aI ca h0_standing_how 5 F_h0_standing_how), (aI ca h0_standing_dropped 5 F_h0_standing_dropped), (h0_law, .inr (5, [.int h0_law_jurors, .int h0_law_floors, .int h0_law_cases, .int h0_law_one, .int h0_law_dent, .int h0_law_seated, .ref h0_law_jurorName, .ref h0_law_floorName, .ref h0_law_caseName, .ref h0_law_pitch, .ref h0_law_length, .ref h0_law_hands, .ref h0_law_tune, .ref h0_law_dull, .ref h0_law_caseFloor, .ref h0_law_tuned])), (h0, .inr (10, [.ref h0_tape, .ref h0_law, .ref h0_standing, .ref h0_saying, .ref h0_courtReader, .ref h0_bookReader, .ref h0_sentenceReader, .ref h0_bench, .ref h0_whatIf, .ref h0_history, .ref h0_images, .ref h0_latest, .ref h0_latestBook, .ref h0_latestRoll, .int u_251])), (aC ca h0_latestRoll 40 u_252)] := hD
          try dsimp only at w_250
          obtain ⟨h_253, h_254, h_255⟩ := w_250
          refine lv_aload_n hx hb dX11_roll_109 rfl (lv_at hl 1 rfl) ?_
          refine lv_bipush (v := 48) hx hb dX11_roll_110 (by decide) ?_
          refine lv_iload_n hx hb dX11_roll_112 rfl (lv_at hl 0 rfl) ?_
          refine lv_bipush (v := 10) hx hb dX11_roll_113 (by decide) ?_
          refine lv_irem hx hb dX11_roll_115 (by decide) ?_
          refine lv_topi (fun x_256 ex_256 => ?_)
          have h_257 : rg 0 9 x_256 := by rw [ex_256]; exact rg_rem h_242 (⟨by decide, by decide⟩ : rg 10 10 (10 : Int32)) (by decide) (by decide) (by decide) (by decide)
          refine lv_iadd hx hb dX11_roll_116 ?_
          refine lv_topi (fun x_258 ex_258 => ?_)
          have h_259 : rg 48 57 x_258 := by rw [ex_258]; exact rg_add (⟨by decide, by decide⟩ : rg 48 48 (48 : Int32)) h_257 (by decide) (by decide) (by decide) (by decide)
          have l_260 : lq x_258.toInt (x_256.toInt + 48) := lqm (by rw [ex_258]; have q := tadd (⟨by decide, by decide⟩ : rg 48 48 (48 : Int32)) h_257 (by decide) (by decide); have r0 := lqe (lqm (by decide) : lq (48 : Int32).toInt 48); omega)
          refine lv_i2c hx hb dX11_roll_117 rfl ?_
          refine lv_topi (fun x_261 ex_261 => ?_)
          refine oC_v (Wc := [(h0, .inr (10, [.ref h0_tape, .ref h0_law, .ref h0_standing, .ref h0_saying, .ref h0_courtReader, .ref h0_bookReader, .ref h0_sentenceReader, .ref h0_bench, .ref h0_whatIf, .ref h0_history, .ref h0_images, .ref h0_latest, .ref h0_latestBook, .ref h0_latestRoll, .int u_251])), (aC ca h0_latestRoll 40 u_252)]) (Wr := [(aJ ca h0_law_caseName 5 F_h0_law_caseName), (h0_standing, .inr (9, [.int h0_standing_day, .int h0_standing_sits, .int h0_standing_holds, .int h0_standing_trials, .int h0_standing_triedToday, .ref h0_standing_dents, .ref h0_standing_drops, .ref h0_standing_how, .ref h0_standing_triedOn, .ref h0_standing_dropped, .ref h0_standing_heldOn])), (aI ca h0_standing_how 5 F_h0_standing_how), (aI ca h0_standing_dropped 5 F_h0_standing_dropped), (h0_law, .inr (5, [.int h0_law_jurors, .int h0_law_floors, .int h0_law_cases, .int h0_law_one, .int h0_law_dent, .int h0_law_seated, .ref h0_law_jurorName, .ref h0_law_floorName, .ref h0_law_caseName, .ref h0_law_pitch, .ref h0_law_length, .ref h0_law_hands, .ref h0_law_tune, .ref h0_law_dull, .ref h0_law_caseFloor, .ref h0_law_tuned]))]) (va_runV (As := [.int x_261]) (rest := []) ⟨hx, hb, hml, hown, hts⟩ (s_X11_writeLetter l D ca H.size h0 x_261 h0_tape h0_law h0_standing h0_saying h0_courtReader h0_bookReader h0_sentenceReader h0_bench h0_whatIf h0_history h0_images h0_latest h0_latestBook h0_latestRoll u_251 u_252 (rgw (lo := 0) (hi := 40) h_253 (by decide) (by decide))) (cwV 1 hts gX11_roll_X11_writeLetter rfl rfl rfl (by decide +kernel) ⟨Nat.le_of_ble_eq_true rfl, Nat.le_of_ble_eq_true rfl⟩) (oPV (C := RX11) hK hP hD [5, 6] rfl (by decide) 0 rfl (ci := 10) rfl rfl) rfl rfl hl.1 rfl (lv_room (Nat.le_of_ble_eq_true rfl)) dX11_roll_118 ⟨Nat.le_of_ble_eq_true rfl, Nat.le_of_ble_eq_true rfl⟩) hP hD hS hA [5, 6] [0, 1, 2, 3, 4] rfl rfl (by decide) (by decide) (fun u H locs w_263 hP hD hS => ?_)
          obtain ⟨u_264, u_265⟩ := u
          have hP : va_P D vwCl [(aJ ca h0_law_caseName 5 F_h0_law_caseName), (h0_standing, .inr (9, [.int h0_standing_day, .int h0_standing_sits, .int h0_standing_holds, .int h0_standing_trials, .int h0_standing_triedToday, .ref h0_standing_dents, .ref h0_standing_drops, .ref h0_standing_how, .ref h0_standing_triedOn, .ref h0_standing_dropped, .ref h0_standing_heldOn])), (aI ca h0_standing_how 5 F_h0_standing_how), (aI ca h0_standing_dropped 5 F_h0_standing_dropped), (h0_law, .inr (5, [.int h0_law_jurors, .int h0_law_floors, .int h0_law_cases, .int h0_law_one, .int h0_law_dent, .int h0_law_seated, .ref h0_law_jurorName, .ref h0_law_floorName, .ref h0_law_caseName, .ref h0_law_pitch, .ref h0_law_length, .ref h0_law_hands, .ref h0_law_tune, .ref h0_law_dull, .ref h0_law_caseFloor, .ref h0_law_tuned])), (h0, .inr (10, [.ref h0_tape, .ref h0_law, .ref h0_standing, .ref h0_saying, .ref h0_courtReader, .ref h0_bookReader, .ref h0_sentenceReader, .ref h0_bench, .ref h0_whatIf, .ref h0_history, .ref h0_images, .ref h0_latest, .ref h0_latestBook, .ref h0_latestRoll, .int u_264])), (aC ca h0_latestRoll 40 u_265)] H := hP
          have hD : va_D A [(aJ ca h0_law_caseName 5 F_h0_law_caseName), (h0_standing, .inr (9, [.int h0_standing_day, .int h0_standing_sits, .int h0_standing_holds, .int h0_standing_trials, .int h0_standing_triedToday, .ref h0_standing_dents, .ref h0_standing_drops, .ref h0_standing_how, .ref h0_standing_triedOn, .ref h0_standing_dropped, .ref h0_standing_heldOn])), (aI ca h0_standing_how 5 F_h0_standing_how), (aI ca h0_standing_dropped 5 F_h0_standing_dropped), (h0_law, .inr (5, [.int h0_law_jurors, .int h0_law_floors, .int h0_law_cases, .int h0_law_one, .int h0_law_dent, .int h0_law_seated, .ref h0_law_jurorName, .ref h0_law_floorName, .ref h0_law_caseName, .ref h0_law_pitch, .ref h0_law_length, .ref h0_law_hands, .ref h0_law_tune, .ref h0_law_dull, .ref h0_law_caseFloor, .ref h0_law_tuned])), (h0, .inr (10, [.ref h0_tape, .ref h0_law, .ref h0_standing, .ref h0_saying, .ref h0_courtReader, .ref h0_bookReader, .ref h0_sentenceReader, .ref h0_bench, .ref h0_whatIf, .ref h0_history, .ref h0_images, .ref h0_latest, .ref h0_latestBook, .ref h0_latestRoll, .int u_264])), (aC ca h0_latestRoll 40 u_265)] := hD
          try dsimp only at w_263
          obtain ⟨h_266, h_267, h_268⟩ := w_263
          refine lv_aload_n hx hb dX11_roll_121 rfl (lv_at hl 1 rfl) ?_
          refine va_get (D := D) (ci := 10) (v := .int u_264) (C := RX11) (T := TX11) (N := 15) hx hb hts k2 hown hK.1 hP 5 rfl rfl 14 (by decide) k1 (fun _ h9 => h9) rfl dX11_roll_122 ?_
          exact oE_i hx hb hr rfl hlocks hP hD hS (u_264, u_265) [5, 4, 0, 6, 1, 2, 3] rfl (by decide) ⟨(rgw (lo := (-1)) (hi := 40) h_266 (by decide) (by decide)), (rgw (lo := 0) (hi := 40) h_266 (by decide) (by decide))⟩ (Nat.le_of_ble_eq_true rfl) (Nat.le_of_ble_eq_true rfl) dX11_roll_125
    · skip
      have o_269 : rl 0 x_154 0 := rl_eq c_155
      have h_270 : rg (-2147483648) 0 x_154 := rl_x o_269 (rga x_154) (⟨by decide, by decide⟩ : rg 0 0 (0 : Int32)) (by decide) (by decide)
      have o_271 : rl 0 0 x_154 := rl_eq c_155.symm
      have h_272 : rg 0 0 x_154 := rl_y o_271 (⟨by decide, by decide⟩ : rg 0 0 (0 : Int32)) h_270 (by decide) (by decide)
      refine lv_aload_n hx hb dX11_roll_40 rfl (lv_at hl 0 rfl) ?_
      refine va_ldcwS hx hb hown hT.2.1.1 dX11_roll_41 ?_
      refine oC_v (Wc := [(h0, .inr (10, [.ref h0_tape, .ref h0_law, .ref h0_standing, .ref h0_saying, .ref h0_courtReader, .ref h0_bookReader, .ref h0_sentenceReader, .ref h0_bench, .ref h0_whatIf, .ref h0_history, .ref h0_images, .ref h0_latest, .ref h0_latestBook, .ref h0_latestRoll, .int u_150])), (aC ca h0_latestRoll 40 u_151)]) (Wr := [(aJ ca h0_law_caseName 5 F_h0_law_caseName), (h0_standing, .inr (9, [.int h0_standing_day, .int h0_standing_sits, .int h0_standing_holds, .int h0_standing_trials, .int h0_standing_triedToday, .ref h0_standing_dents, .ref h0_standing_drops, .ref h0_standing_how, .ref h0_standing_triedOn, .ref h0_standing_dropped, .ref h0_standing_heldOn])), (aI ca h0_standing_how 5 F_h0_standing_how), (aI ca h0_standing_dropped 5 F_h0_standing_dropped), (h0_law, .inr (5, [.int h0_law_jurors, .int h0_law_floors, .int h0_law_cases, .int h0_law_one, .int h0_law_dent, .int h0_law_seated, .ref h0_law_jurorName, .ref h0_law_floorName, .ref h0_law_caseName, .ref h0_law_pitch, .ref h0_law_length, .ref h0_law_hands, .ref h0_law_tune, .ref h0_law_dull, .ref h0_law_caseFloor, .ref h0_law_tuned]))]) (va_runV (As := [.ref (sd 0)]) (rest := []) ⟨hx, hb, hml, hown, hts⟩ (s_X11_writeText_0 l D ca ad wt sd H.size h0 h0_tape h0_law h0_standing h0_saying h0_courtReader h0_bookReader h0_sentenceReader h0_bench h0_whatIf h0_history h0_images h0_latest h0_latestBook h0_latestRoll u_150 u_151 h_152) (cwV 1 hts gX11_roll_X11_writeText rfl rfl rfl (by decide +kernel) ⟨Nat.le_of_ble_eq_true rfl, Nat.le_of_ble_eq_true rfl⟩) (tPV (C := RX11) hT hZ hS hA hK hP hD [5, 6] rfl (by decide) 0 rfl (ci := 10) rfl rfl) rfl rfl hl.1 rfl (lv_room (Nat.le_of_ble_eq_true rfl)) dX11_roll_44 ⟨Nat.le_of_ble_eq_true rfl, Nat.le_of_ble_eq_true rfl⟩) hP hD hS hA [5, 6] [0, 1, 2, 3, 4] rfl rfl (by decide) (by decide) (fun u H locs w_274 hP hD hS => ?_)
      obtain ⟨u_275, u_276⟩ := u
      have hP : va_P D vwCl [(aJ ca h0_law_caseName 5 F_h0_law_caseName), (h0_standing, .inr (9, [.int h0_standing_day, .int h0_standing_sits, .int h0_standing_holds, .int h0_standing_trials, .int h0_standing_triedToday, .ref h0_standing_dents, .ref h0_standing_drops, .ref h0_standing_how, .ref h0_standing_triedOn, .ref h0_standing_dropped, .ref h0_standing_heldOn])), (aI ca h0_standing_how 5 F_h0_standing_how), (aI ca h0_standing_dropped 5 F_h0_standing_dropped), (h0_law, .inr (5, [.int h0_law_jurors, .int h0_law_floors, .int h0_law_cases, .int h0_law_one, .int h0_law_dent, .int h0_law_seated, .ref h0_law_jurorName, .ref h0_law_floorName, .ref h0_law_caseName, .ref h0_law_pitch, .ref h0_law_length, .ref h0_law_hands, .ref h0_law_tune, .ref h0_law_dull, .ref h0_law_caseFloor, .ref h0_law_tuned])), (h0, .inr (10, [.ref h0_tape, .ref h0_law, .ref h0_standing, .ref h0_saying, .ref h0_courtReader, .ref h0_bookReader, .ref h0_sentenceReader, .ref h0_bench, .ref h0_whatIf, .ref h0_history, .ref h0_images, .ref h0_latest, .ref h0_latestBook, .ref h0_latestRoll, .int u_275])), (aC ca h0_latestRoll 40 u_276)] H := hP
      have hD : va_D A [(aJ ca h0_law_caseName 5 F_h0_law_caseName), (h0_standing, .inr (9, [.int h0_standing_day, .int h0_standing_sits, .int h0_standing_holds, .int h0_standing_trials, .int h0_standing_triedToday, .ref h0_standing_dents, .ref h0_standing_drops, .ref h0_standing_how, .ref h0_standing_triedOn, .ref h0_standing_dropped, .ref h0_standing_heldOn])), (aI ca h0_standing_how 5 F_h0_standing_how), (aI ca h0_standing_dropped 5 F_h0_standing_dropped), (h0_law, .inr (5, [.int h0_law_jurors, .int h0_law_floors, .int h0_law_cases, .int h0_law_one, .int h0_law_dent, .int h0_law_seated, .ref h0_law_jurorName, .ref h0_law_floorName, .ref h0_law_caseName, .ref h0_law_pitch, .ref h0_law_length, .ref h0_law_hands, .ref h0_law_tune, .ref h0_law_dull, .ref h0_law_caseFloor, .ref h0_law_tuned])), (h0, .inr (10, [.ref h0_tape, .ref h0_law, .ref h0_standing, .ref h0_saying, .ref h0_courtReader, .ref h0_bookReader, .ref h0_sentenceReader, .ref h0_bench, .ref h0_whatIf, .ref h0_history, .ref h0_images, .ref h0_latest, .ref h0_latestBook, .ref h0_latestRoll, .int u_275])), (aC ca h0_latestRoll 40 u_276)] := hD
      try dsimp only at w_274
      obtain ⟨h_277, h_278⟩ := w_274
      refine lv_aload_n hx hb dX11_roll_47 rfl (lv_at hl 0 rfl) ?_
      refine va_get (D := D) (ci := 10) (v := .int u_275) (C := RX11) (T := TX11) (N := 15) hx hb hts k2 hown hK.1 hP 5 rfl rfl 14 (by decide) k1 (fun _ h9 => h9) rfl dX11_roll_48 ?_
      exact oE_i hx hb hr rfl hlocks hP hD hS (u_275, u_276) [5, 4, 0, 6, 1, 2, 3] rfl (by decide) ⟨(rgw (lo := (-1)) (hi := 40) h_277 (by decide) (by decide)), h_277⟩ (Nat.le_of_ble_eq_true rfl) (Nat.le_of_ble_eq_true rfl) dX11_roll_51
