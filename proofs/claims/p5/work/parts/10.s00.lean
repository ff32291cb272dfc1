theorem dX6_append_0 : decode cX6_append 0 = .ok (.bipush 24, 2) := by decide +kernel
theorem dX6_append_2 : decode cX6_append 2 = .ok (.istore_n 2, 1) := by decide +kernel
theorem dX6_append_3 : decode cX6_append 3 = .ok (.iload_n 2, 1) := by decide +kernel
theorem dX6_append_4 : decode cX6_append 4 = .ok (.ifCond .lt 45, 3) := by decide +kernel
theorem dX6_append_7 : decode cX6_append 7 = .ok (.aload_n 0, 1) := by decide +kernel
theorem dX6_append_8 : decode cX6_append 8 = .ok (.getfield 15, 3) := by decide +kernel
theorem dX6_append_11 : decode cX6_append 11 = .ok (.sipush 940, 3) := by decide +kernel
theorem dX6_append_14 : decode cX6_append 14 = .ok (.if_icmp .ge 35, 3) := by decide +kernel
theorem dX6_append_17 : decode cX6_append 17 = .ok (.aload_n 0, 1) := by decide +kernel
theorem dX6_append_18 : decode cX6_append 18 = .ok (.getfield 9, 3) := by decide +kernel
theorem dX6_append_21 : decode cX6_append 21 = .ok (.aload_n 0, 1) := by decide +kernel
theorem dX6_append_22 : decode cX6_append 22 = .ok (.getfield 15, 3) := by decide +kernel
theorem dX6_append_25 : decode cX6_append 25 = .ok (.iload_n 1, 1) := by decide +kernel
theorem dX6_append_26 : decode cX6_append 26 = .ok (.iload_n 2, 1) := by decide +kernel
theorem dX6_append_27 : decode cX6_append 27 = .ok (.iushr, 1) := by decide +kernel
theorem dX6_append_28 : decode cX6_append 28 = .ok (.sipush 255, 3) := by decide +kernel
theorem dX6_append_31 : decode cX6_append 31 = .ok (.iand, 1) := by decide +kernel
theorem dX6_append_32 : decode cX6_append 32 = .ok (.iastore, 1) := by decide +kernel
theorem dX6_append_33 : decode cX6_append 33 = .ok (.aload_n 0, 1) := by decide +kernel
theorem dX6_append_34 : decode cX6_append 34 = .ok (.dup, 1) := by decide +kernel
theorem dX6_append_35 : decode cX6_append 35 = .ok (.getfield 15, 3) := by decide +kernel
theorem dX6_append_38 : decode cX6_append 38 = .ok (.iconst 1, 1) := by decide +kernel
theorem dX6_append_39 : decode cX6_append 39 = .ok (.iadd, 1) := by decide +kernel
theorem dX6_append_40 : decode cX6_append 40 = .ok (.putfield 15, 3) := by decide +kernel
theorem dX6_append_43 : decode cX6_append 43 = .ok (.iinc 2 (-8), 3) := by decide +kernel
theorem dX6_append_46 : decode cX6_append 46 = .ok (.goto (-43), 3) := by decide +kernel
theorem dX6_append_49 : decode cX6_append 49 = .ok (.return_, 1) := by decide +kernel
set_option maxHeartbeats 4000000 in
set_option maxRecDepth 100000 in
theorem e_X6_append (l : Launch) (D : va_G) (ca : Nat → ClassId) (sz : Nat) (h0 : Nat) (a1 : Int32) (h0_bytes : Nat) (h0_length : Int32) (h0_faultKind : Int32) (h0_faultAt : Int32) (h0_letters : Int64) (h0_mostBytes : Int32) (h0_behind : Int32) (h0_at : Int32) (h0_kind : Int32) (h0_number : Int32) (F_h0_bytes : Nat → Int32) (i_h0_length : rg 0 940 h0_length) (i_h0_faultKind : rg 0 4 h0_faultKind) (i_h0_behind : rg 0 940 h0_behind) (s_h0_bytes_0 : sg 0 940 0 255 F_h0_bytes) : oMet l yX6_append wsX6_append ({ frames := 0, cells := 0, slots := 0, locals := 0 } : Room) [.ref h0, .int a1] D ca sz [(h0, .inr (6, [.ref h0_bytes, .int h0_length, .int h0_faultKind, .int h0_faultAt, .long h0_letters, .int h0_mostBytes, .int h0_behind, .int h0_at, .int h0_kind, .int h0_number])), (aI ca h0_bytes 940 F_h0_bytes)] (oQv D (fun (u : Int32 × (Nat → Int32)) => (rg 0 940 u.1) ∧ (sg 0 940 0 255 u.2) ∧ (rl 0 h0_length u.1) ∧ ((u.1, u.2) = y_X6_append a1 h0_length F_h0_bytes)) (fun (u : Int32 × (Nat → Int32)) => [(h0, .inr (6, [.ref h0_bytes, .int u.1, .int h0_faultKind, .int h0_faultAt, .long h0_letters, .int h0_mostBytes, .int h0_behind, .int h0_at, .int h0_kind, .int h0_number])), (aI ca h0_bytes 940 u.2)])) 0 0 := by
  refine oM (cc := cX6_append) (maxL := 3) (ret := none) (by decide) rfl (Nat.le_of_ble_eq_true rfl) [(0, .ref h0), (1, .int a1)] rfl ?_
  intro p e s m below meth c A H locs ls hx hb hr hml hts hown hlocks hin hK hP hD hA hS hl
  have hown : s.vm.findClass RX6 = some m.cls := hown
  have hY := y_X6_append_s a1 h0_length F_h0_bytes
  have k1 := hts (.fieldLink RX6 15 "LidCourt$Reader" "length" "I") (by decide +kernel)
  have k2 : ∀ w ∈ wsX60, w ∈ wsX6_append := fun _ h => List.mem_cons_of_mem _ (List.mem_append_right _ h)
  have k3 := hts (.fieldLink RX6 9 "LidCourt$Reader" "bytes" "[I") (by decide +kernel)
  have J3_69 : ∀ (n3 : Nat) (y3_0 : Int32) (y3_1 : Int32) (f3_2 : Nat → Int32), True → rg (-2147483648) 24 y3_0 → rg 0 940 y3_1 → rl 0 h0_length y3_1 → sg 0 940 0 255 f3_2 → y3_0.toInt < (-2147483648) + (n3 : Int) → y_X6_append a1 h0_length F_h0_bytes = y_X6_append_3 a1 n3 y3_0 y3_1 f3_2 → ∀ (H : Heap) (locs : List Loc) (ls : Array Slot), va_P D vwCl [(h0, .inr (6, [.ref h0_bytes, .int y3_1, .int h0_faultKind, .int h0_faultAt, .long h0_letters, .int h0_mostBytes, .int h0_behind, .int h0_at, .int h0_kind, .int h0_number])), (aI ca h0_bytes 940 f3_2)] H → va_D A [(h0, .inr (6, [.ref h0_bytes, .int y3_1, .int h0_faultKind, .int h0_faultAt, .long h0_letters, .int h0_mostBytes, .int h0_behind, .int h0_at, .int h0_kind, .int h0_number])), (aI ca h0_bytes 940 f3_2)] → va_S A s.heap H locs → lv_has ls 3 [(0, .ref h0), (1, .int a1), (2, .int y3_0)] → W p l e ({ frames := 0, cells := 0, slots := 0, locals := 0 } : Room) s m ([.ref h0, .int a1] : List Value).toArray below meth c H locs 0 0 (MQ below ((oQv D (fun (u : Int32 × (Nat → Int32)) => (rg 0 940 u.1) ∧ (sg 0 940 0 255 u.2) ∧ (rl 0 h0_length u.1) ∧ ((u.1, u.2) = y_X6_append a1 h0_length F_h0_bytes)) (fun (u : Int32 × (Nat → Int32)) => [(h0, .inr (6, [.ref h0_bytes, .int u.1, .int h0_faultKind, .int h0_faultAt, .long h0_letters, .int h0_mostBytes, .int h0_behind, .int h0_at, .int h0_kind, .int h0_number])), (aI ca h0_bytes 940 u.2)])) A) ([.ref h0, .int a1] : List Value).toArray s 0 0 A) (F0 m 3 ls []) := by
    intro n3
    induction n3 with
    | zero => intro y3_0 y3_1 f3_2 _ hy3_0 hy3_1 py3_1_h0_length s3_3 hn hY; exact absurd hn (by have q9 := hy3_0.1; omega)
    | succ n3 ih3 =>
      intro y3_0 y3_1 f3_2 _ hy3_0 hy3_1 py3_1_h0_length s3_3 hn hY H locs ls hP hD hS hl
      have hY := hY.trans (y_X6_append_3_s a1 _ y3_0 y3_1 f3_2)
      refine lv_iload_n hx hb dX6_append_3 rfl (lv_at hl 2 rfl) ?_
      refine lv_if_lt (tgt := 49) hx hb dX6_append_4 (by decide) (fun c_91 => ?_) (fun c_91 => ?_)
      · skip
        have hY := hY.trans (if_pos c_91)
        have o_92 : rl 1 y3_0 0 := rl_lt c_91
        have h_93 : rg (-2147483648) (-1) y3_0 := rl_x o_92 hy3_0 (⟨by decide, by decide⟩ : rg 0 0 (0 : Int32)) (by decide) (by decide)
        exact oE_v hx hb hr hlocks hP hD hS (y3_1, f3_2) [0, 1] rfl (by decide) ⟨hy3_1, s3_3, (show rl 0 h0_length y3_1 from rlm (by have q0 := rle py3_1_h0_length; omega)), hY.symm⟩ (Nat.le_of_ble_eq_true rfl) (Nat.le_of_ble_eq_true rfl) dX6_append_49
      · skip
        have hY := hY.trans (if_neg c_91)
        have o_94 : rl 0 0 y3_0 := rl_nlt c_91
        have h_95 : rg 0 24 y3_0 := rl_y o_94 (⟨by decide, by decide⟩ : rg 0 0 (0 : Int32)) hy3_0 (by decide) (by decide)
        refine lv_aload_n hx hb dX6_append_7 rfl (lv_at hl 0 rfl) ?_
        refine va_get (D := D) (ci := 6) (v := .int y3_1) (C := RX6) (T := TX6) (N := 10) hx hb hts k2 hown hK.1 hP 0 rfl rfl 1 (by decide) k1 (fun _ h9 => h9) rfl dX6_append_8 ?_
        refine lv_sipush (v := 940) hx hb dX6_append_11 (by decide) ?_
        refine lv_icmp_ge (tgt := 49) hx hb dX6_append_14 (by decide) (fun c_96 => ?_) (fun c_96 => ?_)
        · skip
          have hY := hY.trans (if_pos c_96)
          have o_97 : rl 0 940 y3_1 := rl_le c_96
          have h_98 : rg 940 940 y3_1 := rl_y o_97 (⟨by decide, by decide⟩ : rg 940 940 (940 : Int32)) hy3_1 (by decide) (by decide)
          exact oE_v hx hb hr hlocks hP hD hS (y3_1, f3_2) [0, 1] rfl (by decide) ⟨(rgw (lo := 0) (hi := 940) h_98 (by decide) (by decide)), s3_3, (show rl 0 h0_length y3_1 from rlm (by have q0 := rle py3_1_h0_length; omega)), hY.symm⟩ (Nat.le_of_ble_eq_true rfl) (Nat.le_of_ble_eq_true rfl) dX6_append_49
        · skip
          have hY := hY.trans (if_neg c_96)
          have o_99 : rl 1 y3_1 940 := rl_nle c_96
          have h_100 : rg 0 939 y3_1 := rl_x o_99 hy3_1 (⟨by decide, by decide⟩ : rg 940 940 (940 : Int32)) (by decide) (by decide)
          refine lv_aload_n hx hb dX6_append_17 rfl (lv_at hl 0 rfl) ?_
          refine va_get (D := D) (ci := 6) (v := .ref h0_bytes) (C := RX6) (T := TX6) (N := 10) hx hb hts k2 hown hK.1 hP 0 rfl rfl 0 (by decide) k3 (fun _ h9 => h9) rfl dX6_append_18 ?_
          refine lv_aload_n hx hb dX6_append_21 rfl (lv_at hl 0 rfl) ?_
          refine va_get (D := D) (ci := 6) (v := .int y3_1) (C := RX6) (T := TX6) (N := 10) hx hb hts k2 hown hK.1 hP 0 rfl rfl 1 (by decide) k1 (fun _ h9 => h9) rfl dX6_append_22 ?_
          refine lv_iload_n hx hb dX6_append_25 rfl (lv_at hl 1 rfl) ?_
          refine lv_iload_n hx hb dX6_append_26 rfl (lv_at hl 2 rfl) ?_
          refine lv_iushr hx hb dX6_append_27 rfl ?_
          refine lv_topi (fun x_101 ex_101 => ?_)
          have hY := hY.trans (lt1_e ex_101)
          refine lv_sipush (v := 255) hx hb dX6_append_28 (by decide) ?_
          refine lv_iand hx hb dX6_append_31 ?_
          refine lv_topi (fun x_102 ex_102 => ?_)
          have hY := hY.trans (lt1_e ex_102)
          have h_103 : rg 0 255 x_102 := by rw [ex_102]; exact rg_and' (⟨by decide, by decide⟩ : rg 255 255 (255 : Int32)) (by decide) (by decide) (by decide)
          refine va_iast hx hb hK.1 hP hD hS 1 0 rfl rfl (rg_in h_100 (by decide) (by decide)) dX6_append_32 (fun H locs hP hD hS => ?_)
          obtain ⟨g_104, eg_104⟩ : ∃ y : Nat → Int32, y = upd f3_2 (y3_1 : Int32).toNatClampNeg (x_102 : Int32) := ⟨_, rfl⟩
          rw [← eg_104] at hP hD
          have hY := hY.trans (lt1_e eg_104)
          have s_105 : sg 0 940 0 255 g_104 := sg_val s3_3 eg_104 h_103
          have hP : va_P D vwCl [(h0, .inr (6, [.ref h0_bytes, .int y3_1, .int h0_faultKind, .int h0_faultAt, .long h0_letters, .int h0_mostBytes, .int h0_behind, .int h0_at, .int h0_kind, .int h0_number])), (aI ca h0_bytes 940 g_104)] H := hP
          have hD : va_D A [(h0, .inr (6, [.ref h0_bytes, .int y3_1, .int h0_faultKind, .int h0_faultAt, .long h0_letters, .int h0_mostBytes, .int h0_behind, .int h0_at, .int h0_kind, .int h0_number])), (aI ca h0_bytes 940 g_104)] := hD
          refine lv_aload_n hx hb dX6_append_33 rfl (lv_at hl 0 rfl) ?_
          refine lv_dup hx hb dX6_append_34 rfl ?_
          refine va_get (D := D) (ci := 6) (v := .int y3_1) (C := RX6) (T := TX6) (N := 10) hx hb hts k2 hown hK.1 hP 0 rfl rfl 1 (by decide) k1 (fun _ h9 => h9) rfl dX6_append_35 ?_
          refine lv_iconst (v := 1) hx hb dX6_append_38 (by decide) ?_
          refine lv_iadd hx hb dX6_append_39 ?_
          refine lv_topi (fun x_106 ex_106 => ?_)
          have hY := hY.trans (lt1_e ex_106)
          have h_107 : rg 1 940 x_106 := by rw [ex_106]; exact rg_add h_100 (⟨by decide, by decide⟩ : rg 1 1 (1 : Int32)) (by decide) (by decide) (by decide) (by decide)
          have l_108 : lq x_106.toInt (y3_1.toInt + 1) := lqm (by rw [ex_106]; have q := tadd h_100 (⟨by decide, by decide⟩ : rg 1 1 (1 : Int32)) (by decide) (by decide); have r1 := lqe (lqm (by decide) : lq (1 : Int32).toInt 1); omega)
          refine va_put (D := D) (ci := 6) (v := .int x_106) (ty := .int) (C := RX6) (T := TX6) (N := 10) hx hb hts k2 tyX6 tyX6_ok nmX6 hown hK.1 hP hD hS 0 rfl rfl 1 (by decide) k1 (fun _ h9 => h9) rfl (by decide +kernel) rfl rfl (Nat.le_of_ble_eq_true rfl) dX6_append_40 (fun H locs hP hD hS => ?_)
          have hP : va_P D vwCl [(h0, .inr (6, [.ref h0_bytes, .int x_106, .int h0_faultKind, .int h0_faultAt, .long h0_letters, .int h0_mostBytes, .int h0_behind, .int h0_at, .int h0_kind, .int h0_number])), (aI ca h0_bytes 940 g_104)] H := hP
          have hD : va_D A [(h0, .inr (6, [.ref h0_bytes, .int x_106, .int h0_faultKind, .int h0_faultAt, .long h0_letters, .int h0_mostBytes, .int h0_behind, .int h0_at, .int h0_kind, .int h0_number])), (aI ca h0_bytes 940 g_104)] := hD
          obtain ⟨x_109, ex_109⟩ : ∃ y : Int32, y = y3_0 + (-8) := ⟨_, rfl⟩
          have hY := hY.trans (lt1_e ex_109)
          have h_110 : rg (-8) 16 x_109 := by rw [ex_109]; exact rg_add h_95 (⟨by decide, by decide⟩ : rg (-8) (-8) ((-8) : Int32)) (by decide) (by decide) (by decide) (by decide)
          have l_111 : lq x_109.toInt (y3_0.toInt + (-8)) := lqm (by rw [ex_109]; have q := tadd h_95 (⟨by decide, by decide⟩ : rg (-8) (-8) ((-8) : Int32)) (by decide) (by decide); have r1 := lqe (lqm (by decide) : lq ((-8) : Int32).toInt (-8)); omega)
          refine lv_iinc (v := x_109) (lv' := [(2, .int x_109), (0, .ref h0), (1, .int a1)]) hx hb dX6_append_43 hl (k := 2) rfl (by rw [ex_109]; rfl) (by decide) rfl (fun ls hl => ?_)
          refine lv_goto (tgt := 3) hx hb dX6_append_46 (by decide) ?_
          exact ih3 x_109 x_106 g_104 trivial (rgw (lo := (-2147483648)) (hi := 24) h_110 (by decide) (by decide)) (rgw (lo := 0) (hi := 940) h_107 (by decide) (by decide)) (rlm (by have q0 := lqe l_108; have q1 := rle py3_1_h0_length; omega)) s_105 (by have q0 := lqe l_111; omega) hY H locs ls (oPsub hP [0, 1] rfl) (hD.sub [0, 1] (by decide) rfl) hS (lv_sub hl [1, 2, 0] rfl)
  refine lv_bipush (v := 24) hx hb dX6_append_0 (by decide) ?_
  refine lv_istore_n (lv' := [(2, .int 24), (0, .ref h0), (1, .int a1)]) hx hb dX6_append_2 rfl hl (by decide) rfl (fun ls hl => ?_)
  exact J3_69 2147483673 24 h0_length F_h0_bytes trivial (⟨by decide, by decide⟩ : rg (-2147483648) 24 (24 : Int32)) i_h0_length (rlm (by omega)) s_h0_bytes_0 (by have q0 := (⟨by decide, by decide⟩ : rg 24 24 (24 : Int32)).2; omega) hY H locs ls (oPsub hP [0, 1] rfl) (hD.sub [0, 1] (by decide) rfl) hS (lv_sub hl [1, 2, 0] rfl)
set_option maxHeartbeats 4000000 in
set_option maxRecDepth 100000 in
theorem s_X6_append (l : Launch) (D : va_G) (ca : Nat → ClassId) (sz : Nat) (h0 : Nat) (a1 : Int32) (h0_bytes : Nat) (h0_length : Int32) (h0_faultKind : Int32) (h0_faultAt : Int32) (h0_letters : Int64) (h0_mostBytes : Int32) (h0_behind : Int32) (h0_at : Int32) (h0_kind : Int32) (h0_number : Int32) (F_h0_bytes : Nat → Int32) (i_h0_length : rg 0 940 h0_length) (i_h0_faultKind : rg 0 4 h0_faultKind) (i_h0_behind : rg 0 940 h0_behind) (s_h0_bytes_0 : sg 0 940 0 255 F_h0_bytes) : oMet l yX6_append wsX6_append ({ frames := 0, cells := 0, slots := 0, locals := 0 } : Room) [.ref h0, .int a1] D ca sz [(h0, .inr (6, [.ref h0_bytes, .int h0_length, .int h0_faultKind, .int h0_faultAt, .long h0_letters, .int h0_mostBytes, .int h0_behind, .int h0_at, .int h0_kind, .int h0_number])), (aI ca h0_bytes 940 F_h0_bytes)] (oQv D (fun (u : Int32 × (Nat → Int32)) => (rg 0 940 u.1) ∧ (sg 0 940 0 255 u.2) ∧ (rl 0 h0_length u.1)) (fun (u : Int32 × (Nat → Int32)) => [(h0, .inr (6, [.ref h0_bytes, .int u.1, .int h0_faultKind, .int h0_faultAt, .long h0_letters, .int h0_mostBytes, .int h0_behind, .int h0_at, .int h0_kind, .int h0_number])), (aI ca h0_bytes 940 u.2)])) 0 0 := by
  refine oM (cc := cX6_append) (maxL := 3) (ret := none) (by decide) rfl (Nat.le_of_ble_eq_true rfl) [(0, .ref h0), (1, .int a1)] rfl ?_
  intro p e s m below meth c A H locs ls hx hb hr hml hts hown hlocks hin hK hP hD hA hS hl
  have hown : s.vm.findClass RX6 = some m.cls := hown
  have k1 := hts (.fieldLink RX6 15 "LidCourt$Reader" "length" "I") (by decide +kernel)
  have k2 : ∀ w ∈ wsX60, w ∈ wsX6_append := fun _ h => List.mem_cons_of_mem _ (List.mem_append_right _ h)
  have k3 := hts (.fieldLink RX6 9 "LidCourt$Reader" "bytes" "[I") (by decide +kernel)
  have J3_69 : ∀ (n : Nat) (y3_0 : Int32) (y3_1 : Int32) (f3_2 : Nat → Int32), True → rg (-2147483648) 24 y3_0 → rg 0 940 y3_1 → rl 0 h0_length y3_1 → sg 0 940 0 255 f3_2 → y3_0.toInt < (-2147483648) + (n : Int) → ∀ (H : Heap) (locs : List Loc) (ls : Array Slot), va_P D vwCl [(h0, .inr (6, [.ref h0_bytes, .int y3_1, .int h0_faultKind, .int h0_faultAt, .long h0_letters, .int h0_mostBytes, .int h0_behind, .int h0_at, .int h0_kind, .int h0_number])), (aI ca h0_bytes 940 f3_2)] H → va_D A [(h0, .inr (6, [.ref h0_bytes, .int y3_1, .int h0_faultKind, .int h0_faultAt, .long h0_letters, .int h0_mostBytes, .int h0_behind, .int h0_at, .int h0_kind, .int h0_number])), (aI ca h0_bytes 940 f3_2)] → va_S A s.heap H locs → lv_has ls 3 [(0, .ref h0), (1, .int a1), (2, .int y3_0)] → W p l e ({ frames := 0, cells := 0, slots := 0, locals := 0 } : Room) s m ([.ref h0, .int a1] : List Value).toArray below meth c H locs 0 0 (MQ below ((oQv D (fun (u : Int32 × (Nat → Int32)) => (rg 0 940 u.1) ∧ (sg 0 940 0 255 u.2) ∧ (rl 0 h0_length u.1)) (fun (u : Int32 × (Nat → Int32)) => [(h0, .inr (6, [.ref h0_bytes, .int u.1, .int h0_faultKind, .int h0_faultAt, .long h0_letters, .int h0_mostBytes, .int h0_behind, .int h0_at, .int h0_kind, .int h0_number])), (aI ca h0_bytes 940 u.2)])) A) ([.ref h0, .int a1] : List Value).toArray s 0 0 A) (F0 m 3 ls []) := by
    intro n
    induction n with
    | zero => intro y3_0 y3_1 f3_2 _ hy3_0 hy3_1 py3_1_h0_length s3_3 hn; exact absurd hn (by have q9 := hy3_0.1; omega)
    | succ n ih =>
      intro y3_0 y3_1 f3_2 _ hy3_0 hy3_1 py3_1_h0_length s3_3 hn H locs ls hP hD hS hl
      refine lv_iload_n hx hb dX6_append_3 rfl (lv_at hl 2 rfl) ?_
      refine lv_if_lt (tgt := 49) hx hb dX6_append_4 (by decide) (fun c_91 => ?_) (fun c_91 => ?_)
      · skip
        have o_92 : rl 1 y3_0 0 := rl_lt c_91
        have h_93 : rg (-2147483648) (-1) y3_0 := rl_x o_92 hy3_0 (⟨by decide, by decide⟩ : rg 0 0 (0 : Int32)) (by decide) (by decide)
        exact oE_v hx hb hr hlocks hP hD hS (y3_1, f3_2) [0, 1] rfl (by decide) ⟨hy3_1, s3_3, (show rl 0 h0_length y3_1 from rlm (by have q0 := rle py3_1_h0_length; omega))⟩ (Nat.le_of_ble_eq_true rfl) (Nat.le_of_ble_eq_true rfl) dX6_append_49
      · skip
        have o_94 : rl 0 0 y3_0 := rl_nlt c_91
        have h_95 : rg 0 24 y3_0 := rl_y o_94 (⟨by decide, by decide⟩ : rg 0 0 (0 : Int32)) hy3_0 (by decide) (by decide)
        refine lv_aload_n hx hb dX6_append_7 rfl (lv_at hl 0 rfl) ?_
        refine va_get (D := D) (ci := 6) (v := .int y3_1) (C := RX6) (T := TX6) (N := 10) hx hb hts k2 hown hK.1 hP 0 rfl rfl 1 (by decide) k1 (fun _ h9 => h9) rfl dX6_append_8 ?_
        refine lv_sipush (v := 940) hx hb dX6_append_11 (by decide) ?_
        refine lv_icmp_ge (tgt := 49) hx hb dX6_append_14 (by decide) (fun c_96 => ?_) (fun c_96 => ?_)
        · skip
          have o_97 : rl 0 940 y3_1 := rl_le c_96
          have h_98 : rg 940 940 y3_1 := rl_y o_97 (⟨by decide, by decide⟩ : rg 940 940 (940 : Int32)) hy3_1 (by decide) (by decide)
          exact oE_v hx hb hr hlocks hP hD hS (y3_1, f3_2) [0, 1] rfl (by decide) ⟨(rgw (lo := 0) (hi := 940) h_98 (by decide) (by decide)), s3_3, (show rl 0 h0_length y3_1 from rlm (by have q0 := rle py3_1_h0_length; omega))⟩ (Nat.le_of_ble_eq_true rfl) (Nat.le_of_ble_eq_true rfl) dX6_append_49
        · skip
          have o_99 : rl 1 y3_1 940 := rl_nle c_96
          have h_100 : rg 0 939 y3_1 := rl_x o_99 hy3_1 (⟨by decide, by decide⟩ : rg 940 940 (940 : Int32)) (by decide) (by decide)
          refine lv_aload_n hx hb dX6_append_17 rfl (lv_at hl 0 rfl) ?_
          refine va_get (D := D) (ci := 6) (v := .ref h0_bytes) (C := RX6) (T := TX6) (N := 10) hx hb hts k2 hown hK.1 hP 0 rfl rfl 0 (by decide) k3 (fun _ h9 => h9) rfl dX6_append_18 ?_
          refine lv_aload_n hx hb dX6_append_21 rfl (lv_at hl 0 rfl) ?_
          refine va_get (D := D) (ci := 6) (v := .int y3_1) (C := RX6) (T := TX6) (N := 10) hx hb hts k2 hown hK.1 hP 0 rfl rfl 1 (by decide) k1 (fun _ h9 => h9) rfl dX6_append_22 ?_
          refine lv_iload_n hx hb dX6_append_25 rfl (lv_at hl 1 rfl) ?_
          refine lv_iload_n hx hb dX6_append_26 rfl (lv_at hl 2 rfl) ?_
          refine lv_iushr hx hb dX6_append_27 rfl ?_
          refine lv_topi (fun x_101 ex_101 => ?_)
          refine lv_sipush (v := 255) hx hb dX6_append_28 (by decide) ?_
          refine lv_iand hx hb dX6_append_31 ?_
          refine lv_topi (fun x_102 ex_102 => ?_)
          have h_103 : rg 0 255 x_102 := by rw [ex_102]; exact rg_and' (⟨by decide, by decide⟩ : rg 255 255 (255 : Int32)) (by decide) (by decide) (by decide)
          refine va_iast hx hb hK.1 hP hD hS 1 0 rfl rfl (rg_in h_100 (by decide) (by decide)) dX6_append_32 (fun H locs hP hD hS => ?_)
          obtain ⟨g_104, eg_104⟩ : ∃ y : Nat → Int32, y = upd f3_2 (y3_1 : Int32).toNatClampNeg (x_102 : Int32) := ⟨_, rfl⟩
          rw [← eg_104] at hP hD
          have s_105 : sg 0 940 0 255 g_104 := sg_val s3_3 eg_104 h_103
          have hP : va_P D vwCl [(h0, .inr (6, [.ref h0_bytes, .int y3_1, .int h0_faultKind, .int h0_faultAt, .long h0_letters, .int h0_mostBytes, .int h0_behind, .int h0_at, .int h0_kind, .int h0_number])), (aI ca h0_bytes 940 g_104)] H := hP
          have hD : va_D A [(h0, .inr (6, [.ref h0_bytes, .int y3_1, .int h0_faultKind, .int h0_faultAt, .long h0_letters, .int h0_mostBytes, .int h0_behind, .int h0_at, .int h0_kind, .int h0_number])), (aI ca h0_bytes 940 g_104)] := hD
          refine lv_aload_n hx hb dX6_append_33 rfl (lv_at hl 0 rfl) ?_
          refine lv_dup hx hb dX6_append_34 rfl ?_
          refine va_get (D := D) (ci := 6) (v := .int y3_1) (C := RX6) (T := TX6) (N := 10) hx hb hts k2 hown hK.1 hP 0 rfl rfl 1 (by decide) k1 (fun _ h9 => h9) rfl dX6_append_35 ?_
          refine lv_iconst (v := 1) hx hb dX6_append_38 (by decide) ?_
          refine lv_iadd hx hb dX6_append_39 ?_
          refine lv_topi (fun x_106 ex_106 => ?_)
          have h_107 : rg 1 940 x_106 := by rw [ex_106]; exact rg_add h_100 (⟨by decide, by decide⟩ : rg 1 1 (1 : Int32)) (by decide) (by decide) (by decide) (by decide)
          have l_108 : lq x_106.toInt (y3_1.toInt + 1) := lqm (by rw [ex_106]; have q := tadd h_100 (⟨by decide, by decide⟩ : rg 1 1 (1 : Int32)) (by decide) (by decide); have r1 := lqe (lqm (by decide) : lq (1 : Int32).toInt 1); omega)
          refine va_put (D := D) (ci := 6) (v := .int x_106) (ty := .int) (C := RX6) (T := TX6) (N := 10) hx hb hts k2 tyX6 tyX6_ok nmX6 hown hK.1 hP hD hS 0 rfl rfl 1 (by decide) k1 (fun _ h9 => h9) rfl (by decide +kernel) rfl rfl (Nat.le_of_ble_eq_true rfl) dX6_append_40 (fun H locs hP hD hS => ?_)
          have hP : va_P D vwCl [(h0, .inr (6, [.ref h0_bytes, .int x_106, .int h0_faultKind, .int h0_faultAt, .long h0_letters, .int h0_mostBytes, .int h0_behind, .int h0_at, .int h0_kind, .int h0_number])), (aI ca h0_bytes 940 g_104)] H := hP
          have hD : va_D A [(h0, .inr (6, [.ref h0_bytes, .int x_106, .int h0_faultKind, .int h0_faultAt, .long h0_letters, .int h0_mostBytes, .int h0_behind, .int h0_at, .int h0_kind, .int h0_number])), (aI ca h0_bytes 940 g_104)] := hD
          obtain ⟨x_109, ex_109⟩ : ∃ y : Int32, y = y3_0 + (-8) := ⟨_, rfl⟩
          have h_110 : rg (-8) 16 x_109 := by rw [ex_109]; exact rg_add h_95 (⟨by decide, by decide⟩ : rg (-8) (-8) ((-8) : Int32)) (by decide) (by decide) (by decide) (by decide)
          have l_111 : lq x_109.toInt (y3_0.toInt + (-8)) := lqm (by rw [ex_109]; have q := tadd h_95 (⟨by decide, by decide⟩ : rg (-8) (-8) ((-8) : Int32)) (by decide) (by decide); have r1 := lqe (lqm (by decide) : lq ((-8) : Int32).toInt (-8)); omega)
          refine lv_iinc (v := x_109) (lv' := [(2, .int x_109), (0, .ref h0), (1, .int a1)]) hx hb dX6_append_43 hl (k := 2) rfl (by rw [ex_109]; rfl) (by decide) rfl (fun ls hl => ?_)
          refine lv_goto (tgt := 3) hx hb dX6_append_46 (by decide) ?_
          exact ih x_109 x_106 g_104 trivial (rgw (lo := (-2147483648)) (hi := 24) h_110 (by decide) (by decide)) (rgw (lo := 0) (hi := 940) h_107 (by decide) (by decide)) (rlm (by have q0 := lqe l_108; have q1 := rle py3_1_h0_length; omega)) s_105 (by have q0 := lqe l_111; omega) H locs ls (oPsub hP [0, 1] rfl) (hD.sub [0, 1] (by decide) rfl) hS (lv_sub hl [1, 2, 0] rfl)
  refine lv_bipush (v := 24) hx hb dX6_append_0 (by decide) ?_
  refine lv_istore_n (lv' := [(2, .int 24), (0, .ref h0), (1, .int a1)]) hx hb dX6_append_2 rfl hl (by decide) rfl (fun ls hl => ?_)
  exact J3_69 2147483673 24 h0_length F_h0_bytes trivial (⟨by decide, by decide⟩ : rg (-2147483648) 24 (24 : Int32)) i_h0_length (rlm (by omega)) s_h0_bytes_0 (by have q0 := (⟨by decide, by decide⟩ : rg 24 24 (24 : Int32)).2; omega) H locs ls (oPsub hP [0, 1] rfl) (hD.sub [0, 1] (by decide) rfl) hS (lv_sub hl [1, 2, 0] rfl)
set_option maxHeartbeats 4000000 in
set_option maxRecDepth 100000 in
theorem s_X6_append4 (l : Launch) (D : va_G) (ca : Nat → ClassId) (sz : Nat) (h0 : Nat) (a1 : Int32) (h0_bytes : Nat) (h0_length : Int32) (h0_faultKind : Int32) (h0_faultAt : Int32) (h0_letters : Int64) (h0_mostBytes : Int32) (h0_behind : Int32) (h0_at : Int32) (h0_kind : Int32) (h0_number : Int32) (F_h0_bytes : Nat → Int32) (i_h0_length : rg 0 936 h0_length) (i_h0_faultKind : rg 0 4 h0_faultKind) (i_h0_behind : rg 0 940 h0_behind) (s_h0_bytes_0 : sg 0 940 0 255 F_h0_bytes) : oMet l yX6_append wsX6_append ({ frames := 0, cells := 0, slots := 0, locals := 0 } : Room) [.ref h0, .int a1] D ca sz [(h0, .inr (6, [.ref h0_bytes, .int h0_length, .int h0_faultKind, .int h0_faultAt, .long h0_letters, .int h0_mostBytes, .int h0_behind, .int h0_at, .int h0_kind, .int h0_number])), (aI ca h0_bytes 940 F_h0_bytes)] (oQv D (fun (u : Int32 × (Nat → Int32)) => (rg 4 940 u.1) ∧ (sg 0 940 0 255 u.2) ∧ (rl 4 h0_length u.1) ∧ (rl (-4) u.1 h0_length)) (fun (u : Int32 × (Nat → Int32)) => [(h0, .inr (6, [.ref h0_bytes, .int u.1, .int h0_faultKind, .int h0_faultAt, .long h0_letters, .int h0_mostBytes, .int h0_behind, .int h0_at, .int h0_kind, .int h0_number])), (aI ca h0_bytes 940 u.2)])) 0 0 := by
  refine oM (cc := cX6_append) (maxL := 3) (ret := none) (by decide) rfl (Nat.le_of_ble_eq_true rfl) [(0, .ref h0), (1, .int a1)] rfl ?_
  intro p e s m below meth c A H locs ls hx hb hr hml hts hown hlocks hin hK hP hD hA hS hl
  have hown : s.vm.findClass RX6 = some m.cls := hown
  have k1 := hts (.fieldLink RX6 15 "LidCourt$Reader" "length" "I") (by decide +kernel)
  have k2 : ∀ w ∈ wsX60, w ∈ wsX6_append := fun _ h => List.mem_cons_of_mem _ (List.mem_append_right _ h)
  have k3 := hts (.fieldLink RX6 9 "LidCourt$Reader" "bytes" "[I") (by decide +kernel)
  refine lv_bipush (v := 24) hx hb dX6_append_0 (by decide) ?_
  refine lv_istore_n (lv' := [(2, .int 24), (0, .ref h0), (1, .int a1)]) hx hb dX6_append_2 rfl hl (by decide) rfl (fun ls hl => ?_)
  refine lv_iload_n hx hb dX6_append_3 rfl (lv_at hl 0 rfl) ?_
  refine lv_if_lt (tgt := 49) hx hb dX6_append_4 (by decide) (fun c => absurd c (by decide)) (fun _ => ?_)
  refine lv_aload_n hx hb dX6_append_7 rfl (lv_at hl 1 rfl) ?_
  refine va_get (D := D) (ci := 6) (v := .int h0_length) (C := RX6) (T := TX6) (N := 10) hx hb hts k2 hown hK.1 hP 0 rfl rfl 1 (by decide) k1 (fun _ h9 => h9) rfl dX6_append_8 ?_
  refine lv_sipush (v := 940) hx hb dX6_append_11 (by decide) ?_
  refine lv_icmp_ge (tgt := 49) hx hb dX6_append_14 (by decide) (fun c => absurd c (no_le (⟨by decide, by decide⟩ : rg 940 940 (940 : Int32)) i_h0_length (by decide))) (fun _ => ?_)
  refine lv_aload_n hx hb dX6_append_17 rfl (lv_at hl 1 rfl) ?_
  refine va_get (D := D) (ci := 6) (v := .ref h0_bytes) (C := RX6) (T := TX6) (N := 10) hx hb hts k2 hown hK.1 hP 0 rfl rfl 0 (by decide) k3 (fun _ h9 => h9) rfl dX6_append_18 ?_
  refine lv_aload_n hx hb dX6_append_21 rfl (lv_at hl 1 rfl) ?_
  refine va_get (D := D) (ci := 6) (v := .int h0_length) (C := RX6) (T := TX6) (N := 10) hx hb hts k2 hown hK.1 hP 0 rfl rfl 1 (by decide) k1 (fun _ h9 => h9) rfl dX6_append_22 ?_
  refine lv_iload_n hx hb dX6_append_25 rfl (lv_at hl 2 rfl) ?_
  refine lv_iload_n hx hb dX6_append_26 rfl (lv_at hl 0 rfl) ?_
  refine lv_iushr hx hb dX6_append_27 rfl ?_
  refine lv_topi (fun x_42 ex_42 => ?_)
  have h_43 : rg 0 255 x_42 := by rw [ex_42]; exact ushr24 a1
  refine lv_sipush (v := 255) hx hb dX6_append_28 (by decide) ?_
  refine lv_iand hx hb dX6_append_31 ?_
  refine lv_topi (fun x_44 ex_44 => ?_)
  have h_45 : rg 0 255 x_44 := by rw [ex_44]; exact rg_and h_43 (by decide) (by decide) (by decide)
  have o_46 : rl 0 x_44 x_42 := by rw [ex_44]; exact rl_and h_43 (by decide)
  refine va_iast hx hb hK.1 hP hD hS 1 0 rfl rfl (rg_in i_h0_length (by decide) (by decide)) dX6_append_32 (fun H locs hP hD hS => ?_)
  obtain ⟨g_47, eg_47⟩ : ∃ y : Nat → Int32, y = upd F_h0_bytes (h0_length : Int32).toNatClampNeg (x_44 : Int32) := ⟨_, rfl⟩
  rw [← eg_47] at hP hD
  have s_48 : sg 0 940 0 255 g_47 := sg_val s_h0_bytes_0 eg_47 h_45
  have q_49 : eqs 937 940 g_47 F_h0_bytes := eqs_out (eqs_rf (a := 0) (b := 940) F_h0_bytes) eg_47 i_h0_length (by decide) (by decide) (by decide) (by decide)
  have hP : va_P D vwCl [(h0, .inr (6, [.ref h0_bytes, .int h0_length, .int h0_faultKind, .int h0_faultAt, .long h0_letters, .int h0_mostBytes, .int h0_behind, .int h0_at, .int h0_kind, .int h0_number])), (aI ca h0_bytes 940 g_47)] H := hP
  have hD : va_D A [(h0, .inr (6, [.ref h0_bytes, .int h0_length, .int h0_faultKind, .int h0_faultAt, .long h0_letters, .int h0_mostBytes, .int h0_behind, .int h0_at, .int h0_kind, .int h0_number])), (aI ca h0_bytes 940 g_47)] := hD
  refine lv_aload_n hx hb dX6_append_33 rfl (lv_at hl 1 rfl) ?_
  refine lv_dup hx hb dX6_append_34 rfl ?_
  refine va_get (D := D) (ci := 6) (v := .int h0_length) (C := RX6) (T := TX6) (N := 10) hx hb hts k2 hown hK.1 hP 0 rfl rfl 1 (by decide) k1 (fun _ h9 => h9) rfl dX6_append_35 ?_
  refine lv_iconst (v := 1) hx hb dX6_append_38 (by decide) ?_
  refine lv_iadd hx hb dX6_append_39 ?_
  refine lv_topi (fun x_50 ex_50 => ?_)
  have h_51 : rg 1 937 x_50 := by rw [ex_50]; exact rg_add i_h0_length (⟨by decide, by decide⟩ : rg 1 1 (1 : Int32)) (by decide) (by decide) (by decide) (by decide)
  have l_52 : lq x_50.toInt (h0_length.toInt + 1) := lqm (by rw [ex_50]; have q := tadd i_h0_length (⟨by decide, by decide⟩ : rg 1 1 (1 : Int32)) (by decide) (by decide); have r1 := lqe (lqm (by decide) : lq (1 : Int32).toInt 1); omega)
  refine va_put (D := D) (ci := 6) (v := .int x_50) (ty := .int) (C := RX6) (T := TX6) (N := 10) hx hb hts k2 tyX6 tyX6_ok nmX6 hown hK.1 hP hD hS 0 rfl rfl 1 (by decide) k1 (fun _ h9 => h9) rfl (by decide +kernel) rfl rfl (Nat.le_of_ble_eq_true rfl) dX6_append_40 (fun H locs hP hD hS => ?_)
  have hP : va_P D vwCl [(h0, .inr (6, [.ref h0_bytes, .int x_50, .int h0_faultKind, .int h0_faultAt, .long h0_letters, .int h0_mostBytes, .int h0_behind, .int h0_at, .int h0_kind, .int h0_number])), (aI ca h0_bytes 940 g_47)] H := hP
  have hD : va_D A [(h0, .inr (6, [.ref h0_bytes, .int x_50, .int h0_faultKind, .int h0_faultAt, .long h0_letters, .int h0_mostBytes, .int h0_behind, .int h0_at, .int h0_kind, .int h0_number])), (aI ca h0_bytes 940 g_47)] := hD
  refine lv_iinc (v := 16) (lv' := [(2, .int 16), (0, .ref h0), (1, .int a1)]) hx hb dX6_append_43 hl (k := 0) rfl (by decide) (by decide) rfl (fun ls hl => ?_)
  refine lv_goto (tgt := 3) hx hb dX6_append_46 (by decide) ?_
  refine lv_iload_n hx hb dX6_append_3 rfl (lv_at hl 0 rfl) ?_
  refine lv_if_lt (tgt := 49) hx hb dX6_append_4 (by decide) (fun c => absurd c (by decide)) (fun _ => ?_)
  refine lv_aload_n hx hb dX6_append_7 rfl (lv_at hl 1 rfl) ?_
  refine va_get (D := D) (ci := 6) (v := .int x_50) (C := RX6) (T := TX6) (N := 10) hx hb hts k2 hown hK.1 hP 0 rfl rfl 1 (by decide) k1 (fun _ h9 => h9) rfl dX6_append_8 ?_
  refine lv_sipush (v := 940) hx hb dX6_append_11 (by decide) ?_
  refine lv_icmp_ge (tgt := 49) hx hb dX6_append_14 (by decide) (fun c => absurd c (no_le (⟨by decide, by decide⟩ : rg 940 940 (940 : Int32)) h_51 (by decide))) (fun _ => ?_)
  refine lv_aload_n hx hb dX6_append_17 rfl (lv_at hl 1 rfl) ?_
  refine va_get (D := D) (ci := 6) (v := .ref h0_bytes) (C := RX6) (T := TX6) (N := 10) hx hb hts k2 hown hK.1 hP 0 rfl rfl 0 (by decide) k3 (fun _ h9 => h9) rfl dX6_append_18 ?_
  refine lv_aload_n hx hb dX6_append_21 rfl (lv_at hl 1 rfl) ?_
  refine va_get (D := D) (ci := 6) (v := .int x_50) (C := RX6) (T := TX6) (N := 10) hx hb hts k2 hown hK.1 hP 0 rfl rfl 1 (by decide) k1 (fun _ h9 => h9) rfl dX6_append_22 ?_
  refine lv_iload_n hx hb dX6_append_25 rfl (lv_at hl 2 rfl) ?_
  refine lv_iload_n hx hb dX6_append_26 rfl (lv_at hl 0 rfl) ?_
  refine lv_iushr hx hb dX6_append_27 rfl ?_
  refine lv_topi (fun x_53 ex_53 => ?_)
  have h_54 : rg 0 65535 x_53 := by rw [ex_53]; exact ushr16 a1
  refine lv_sipush (v := 255) hx hb dX6_append_28 (by decide) ?_
  refine lv_iand hx hb dX6_append_31 ?_
  refine lv_topi (fun x_55 ex_55 => ?_)
  have h_56 : rg 0 255 x_55 := by rw [ex_55]; exact rg_and' (⟨by decide, by decide⟩ : rg 255 255 (255 : Int32)) (by decide) (by decide) (by decide)
  have o_57 : rl 0 x_55 x_53 := by rw [ex_55]; exact rl_and h_54 (by decide)
  refine va_iast hx hb hK.1 hP hD hS 1 0 rfl rfl (rg_in h_51 (by decide) (by decide)) dX6_append_32 (fun H locs hP hD hS => ?_)
  obtain ⟨g_58, eg_58⟩ : ∃ y : Nat → Int32, y = upd g_47 (x_50 : Int32).toNatClampNeg (x_55 : Int32) := ⟨_, rfl⟩
  rw [← eg_58] at hP hD
  have s_59 : sg 0 940 0 255 g_58 := sg_val s_48 eg_58 h_56
  have q_60 : eqs 938 940 g_58 F_h0_bytes := eqs_out q_49 eg_58 h_51 (by decide) (by decide) (by decide) (by decide)
  have hP : va_P D vwCl [(h0, .inr (6, [.ref h0_bytes, .int x_50, .int h0_faultKind, .int h0_faultAt, .long h0_letters, .int h0_mostBytes, .int h0_behind, .int h0_at, .int h0_kind, .int h0_number])), (aI ca h0_bytes 940 g_58)] H := hP
  have hD : va_D A [(h0, .inr (6, [.ref h0_bytes, .int x_50, .int h0_faultKind, .int h0_faultAt, .long h0_letters, .int h0_mostBytes, .int h0_behind, .int h0_at, .int h0_kind, .int h0_number])), (aI ca h0_bytes 940 g_58)] := hD
  refine lv_aload_n hx hb dX6_append_33 rfl (lv_at hl 1 rfl) ?_
  refine lv_dup hx hb dX6_append_34 rfl ?_
  refine va_get (D := D) (ci := 6) (v := .int x_50) (C := RX6) (T := TX6) (N := 10) hx hb hts k2 hown hK.1 hP 0 rfl rfl 1 (by decide) k1 (fun _ h9 => h9) rfl dX6_append_35 ?_
  refine lv_iconst (v := 1) hx hb dX6_append_38 (by decide) ?_
  refine lv_iadd hx hb dX6_append_39 ?_
  refine lv_topi (fun x_61 ex_61 => ?_)
  have h_62 : rg 2 938 x_61 := by rw [ex_61]; exact rg_add h_51 (⟨by decide, by decide⟩ : rg 1 1 (1 : Int32)) (by decide) (by decide) (by decide) (by decide)
  have l_63 : lq x_61.toInt (h0_length.toInt + 2) := lqm (by rw [ex_61]; have q := tadd h_51 (⟨by decide, by decide⟩ : rg 1 1 (1 : Int32)) (by decide) (by decide); have r0 := lqe l_52; have r1 := lqe (lqm (by decide) : lq (1 : Int32).toInt 1); omega)
  refine va_put (D := D) (ci := 6) (v := .int x_61) (ty := .int) (C := RX6) (T := TX6) (N := 10) hx hb hts k2 tyX6 tyX6_ok nmX6 hown hK.1 hP hD hS 0 rfl rfl 1 (by decide) k1 (fun _ h9 => h9) rfl (by decide +kernel) rfl rfl (Nat.le_of_ble_eq_true rfl) dX6_append_40 (fun H locs hP hD hS => ?_)
  have hP : va_P D vwCl [(h0, .inr (6, [.ref h0_bytes, .int x_61, .int h0_faultKind, .int h0_faultAt, .long h0_letters, .int h0_mostBytes, .int h0_behind, .int h0_at, .int h0_kind, .int h0_number])), (aI ca h0_bytes 940 g_58)] H := hP
  have hD : va_D A [(h0, .inr (6, [.ref h0_bytes, .int x_61, .int h0_faultKind, .int h0_faultAt, .long h0_letters, .int h0_mostBytes, .int h0_behind, .int h0_at, .int h0_kind, .int h0_number])), (aI ca h0_bytes 940 g_58)] := hD
  refine lv_iinc (v := 8) (lv' := [(2, .int 8), (0, .ref h0), (1, .int a1)]) hx hb dX6_append_43 hl (k := 0) rfl (by decide) (by decide) rfl (fun ls hl => ?_)
  refine lv_goto (tgt := 3) hx hb dX6_append_46 (by decide) ?_
  refine lv_iload_n hx hb dX6_append_3 rfl (lv_at hl 0 rfl) ?_
  refine lv_if_lt (tgt := 49) hx hb dX6_append_4 (by decide) (fun c => absurd c (by decide)) (fun _ => ?_)
  refine lv_aload_n hx hb dX6_append_7 rfl (lv_at hl 1 rfl) ?_
  refine va_get (D := D) (ci := 6) (v := .int x_61) (C := RX6) (T := TX6) (N := 10) hx hb hts k2 hown hK.1 hP 0 rfl rfl 1 (by decide) k1 (fun _ h9 => h9) rfl dX6_append_8 ?_
  refine lv_sipush (v := 940) hx hb dX6_append_11 (by decide) ?_
  refine lv_icmp_ge (tgt := 49) hx hb dX6_append_14 (by decide) (fun c => absurd c (no_le (⟨by decide, by decide⟩ : rg 940 940 (940 : Int32)) h_62 (by decide))) (fun _ => ?_)
  refine lv_aload_n hx hb dX6_append_17 rfl (lv_at hl 1 rfl) ?_
  refine va_get (D := D) (ci := 6) (v := .ref h0_bytes) (C := RX6) (T := TX6) (N := 10) hx hb hts k2 hown hK.1 hP 0 rfl rfl 0 (by decide) k3 (fun _ h9 => h9) rfl dX6_append_18 ?_
  refine lv_aload_n hx hb dX6_append_21 rfl (lv_at hl 1 rfl) ?_
  refine va_get (D := D) (ci := 6) (v := .int x_61) (C := RX6) (T := TX6) (N := 10) hx hb hts k2 hown hK.1 hP 0 rfl rfl 1 (by decide) k1 (fun _ h9 => h9) rfl dX6_append_22 ?_
  refine lv_iload_n hx hb dX6_append_25 rfl (lv_at hl 2 rfl) ?_
  refine lv_iload_n hx hb dX6_append_26 rfl (lv_at hl 0 rfl) ?_
  refine lv_iushr hx hb dX6_append_27 rfl ?_
  refine lv_topi (fun x_64 ex_64 => ?_)
  have h_65 : rg 0 16777215 x_64 := by rw [ex_64]; exact ushr8 a1
  refine lv_sipush (v := 255) hx hb dX6_append_28 (by decide) ?_
  refine lv_iand hx hb dX6_append_31 ?_
  refine lv_topi (fun x_66 ex_66 => ?_)
  have h_67 : rg 0 255 x_66 := by rw [ex_66]; exact rg_and' (⟨by decide, by decide⟩ : rg 255 255 (255 : Int32)) (by decide) (by decide) (by decide)
  have o_68 : rl 0 x_66 x_64 := by rw [ex_66]; exact rl_and h_65 (by decide)
  refine va_iast hx hb hK.1 hP hD hS 1 0 rfl rfl (rg_in h_62 (by decide) (by decide)) dX6_append_32 (fun H locs hP hD hS => ?_)
  obtain ⟨g_69, eg_69⟩ : ∃ y : Nat → Int32, y = upd g_58 (x_61 : Int32).toNatClampNeg (x_66 : Int32) := ⟨_, rfl⟩
  rw [← eg_69] at hP hD
  have s_70 : sg 0 940 0 255 g_69 := sg_val s_59 eg_69 h_67
  have q_71 : eqs 939 940 g_69 F_h0_bytes := eqs_out q_60 eg_69 h_62 (by decide) (by decide) (by decide) (by decide)
  have hP : va_P D vwCl [(h0, .inr (6, [.ref h0_bytes, .int x_61, .int h0_faultKind, .int h0_faultAt, .long h0_letters, .int h0_mostBytes, .int h0_behind, .int h0_at, .int h0_kind, .int h0_number])), (aI ca h0_bytes 940 g_69)] H := hP
  have hD : va_D A [(h0, .inr (6, [.ref h0_bytes, .int x_61, .int h0_faultKind, .int h0_faultAt, .long h0_letters, .int h0_mostBytes, .int h0_behind, .int h0_at, .int h0_kind, .int h0_number])), (aI ca h0_bytes 940 g_69)] := hD
  refine lv_aload_n hx hb dX6_append_33 rfl (lv_at hl 1 rfl) ?_
  refine lv_dup hx hb dX6_append_34 rfl ?_
  refine va_get (D := D) (ci := 6) (v := .int x_61) (C := RX6) (T := TX6) (N := 10) hx hb hts k2 hown hK.1 hP 0 rfl rfl 1 (by decide) k1 (fun _ h9 => h9) rfl dX6_append_35 ?_
  refine lv_iconst (v := 1) hx hb dX6_append_38 (by decide) ?_
  refine lv_iadd hx hb dX6_append_39 ?_
  refine lv_topi (fun x_72 ex_72 => ?_)
  have h_73 : rg 3 939 x_72 := by rw [ex_72]; exact rg_add h_62 (⟨by decide, by decide⟩ : rg 1 1 (1 : Int32)) (by decide) (by decide) (by decide) (by decide)
  have l_74 : lq x_72.toInt (h0_length.toInt + 3) := lqm (by rw [ex_72]; have q := tadd h_62 (⟨by decide, by decide⟩ : rg 1 1 (1 : Int32)) (by decide) (by decide); have r0 := lqe l_63; have r1 := lqe (lqm (by decide) : lq (1 : Int32).toInt 1); omega)
  refine va_put (D := D) (ci := 6) (v := .int x_72) (ty := .int) (C := RX6) (T := TX6) (N := 10) hx hb hts k2 tyX6 tyX6_ok nmX6 hown hK.1 hP hD hS 0 rfl rfl 1 (by decide) k1 (fun _ h9 => h9) rfl (by decide +kernel) rfl rfl (Nat.le_of_ble_eq_true rfl) dX6_append_40 (fun H locs hP hD hS => ?_)
  have hP : va_P D vwCl [(h0, .inr (6, [.ref h0_bytes, .int x_72, .int h0_faultKind, .int h0_faultAt, .long h0_letters, .int h0_mostBytes, .int h0_behind, .int h0_at, .int h0_kind, .int h0_number])), (aI ca h0_bytes 940 g_69)] H := hP
  have hD : va_D A [(h0, .inr (6, [.ref h0_bytes, .int x_72, .int h0_faultKind, .int h0_faultAt, .long h0_letters, .int h0_mostBytes, .int h0_behind, .int h0_at, .int h0_kind, .int h0_number])), (aI ca h0_bytes 940 g_69)] := hD
  refine lv_iinc (v := 0) (lv' := [(2, .int 0), (0, .ref h0), (1, .int a1)]) hx hb dX6_append_43 hl (k := 0) rfl (by decide) (by decide) rfl (fun ls hl => ?_)
  refine lv_goto (tgt := 3) hx hb dX6_append_46 (by decide) ?_
  refine lv_iload_n hx hb dX6_append_3 rfl (lv_at hl 0 rfl) ?_
  refine lv_if_lt (tgt := 49) hx hb dX6_append_4 (by decide) (fun c => absurd c (by decide)) (fun _ => ?_)
  refine lv_aload_n hx hb dX6_append_7 rfl (lv_at hl 1 rfl) ?_
  refine va_get (D := D) (ci := 6) (v := .int x_72) (C := RX6) (T := TX6) (N := 10) hx hb hts k2 hown hK.1 hP 0 rfl rfl 1 (by decide) k1 (fun _ h9 => h9) rfl dX6_append_8 ?_
  refine lv_sipush (v := 940) hx hb dX6_append_11 (by decide) ?_
  refine lv_icmp_ge (tgt := 49) hx hb dX6_append_14 (by decide) (fun c => absurd c (no_le (⟨by decide, by decide⟩ : rg 940 940 (940 : Int32)) h_73 (by decide))) (fun _ => ?_)
  refine lv_aload_n hx hb dX6_append_17 rfl (lv_at hl 1 rfl) ?_
  refine va_get (D := D) (ci := 6) (v := .ref h0_bytes) (C := RX6) (T := TX6) (N := 10) hx hb hts k2 hown hK.1 hP 0 rfl rfl 0 (by decide) k3 (fun _ h9 => h9) rfl dX6_append_18 ?_
  refine lv_aload_n hx hb dX6_append_21 rfl (lv_at hl 1 rfl) ?_
  refine va_get (D := D) (ci := 6) (v := .int x_72) (C := RX6) (T := TX6) (N := 10) hx hb hts k2 hown hK.1 hP 0 rfl rfl 1 (by decide) k1 (fun _ h9 => h9) rfl dX6_append_22 ?_
  refine lv_iload_n hx hb dX6_append_25 rfl (lv_at hl 2 rfl) ?_
  refine lv_iload_n hx hb dX6_append_26 rfl (lv_at hl 0 rfl) ?_
  refine lv_iushr hx hb dX6_append_27 rfl ?_
  refine lv_topi (fun x_75 ex_75 => ?_)
  refine lv_sipush (v := 255) hx hb dX6_append_28 (by decide) ?_
  refine lv_iand hx hb dX6_append_31 ?_
  refine lv_topi (fun x_76 ex_76 => ?_)
  have h_77 : rg 0 255 x_76 := by rw [ex_76]; exact rg_and' (⟨by decide, by decide⟩ : rg 255 255 (255 : Int32)) (by decide) (by decide) (by decide)
  refine va_iast hx hb hK.1 hP hD hS 1 0 rfl rfl (rg_in h_73 (by decide) (by decide)) dX6_append_32 (fun H locs hP hD hS => ?_)
  obtain ⟨g_78, eg_78⟩ : ∃ y : Nat → Int32, y = upd g_69 (x_72 : Int32).toNatClampNeg (x_76 : Int32) := ⟨_, rfl⟩
  rw [← eg_78] at hP hD
  have s_79 : sg 0 940 0 255 g_78 := sg_val s_70 eg_78 h_77
  have hP : va_P D vwCl [(h0, .inr (6, [.ref h0_bytes, .int x_72, .int h0_faultKind, .int h0_faultAt, .long h0_letters, .int h0_mostBytes, .int h0_behind, .int h0_at, .int h0_kind, .int h0_number])), (aI ca h0_bytes 940 g_78)] H := hP
  have hD : va_D A [(h0, .inr (6, [.ref h0_bytes, .int x_72, .int h0_faultKind, .int h0_faultAt, .long h0_letters, .int h0_mostBytes, .int h0_behind, .int h0_at, .int h0_kind, .int h0_number])), (aI ca h0_bytes 940 g_78)] := hD
  refine lv_aload_n hx hb dX6_append_33 rfl (lv_at hl 1 rfl) ?_
  refine lv_dup hx hb dX6_append_34 rfl ?_
  refine va_get (D := D) (ci := 6) (v := .int x_72) (C := RX6) (T := TX6) (N := 10) hx hb hts k2 hown hK.1 hP 0 rfl rfl 1 (by decide) k1 (fun _ h9 => h9) rfl dX6_append_35 ?_
  refine lv_iconst (v := 1) hx hb dX6_append_38 (by decide) ?_
  refine lv_iadd hx hb dX6_append_39 ?_
  refine lv_topi (fun x_80 ex_80 => ?_)
  have h_81 : rg 4 940 x_80 := by rw [ex_80]; exact rg_add h_73 (⟨by decide, by decide⟩ : rg 1 1 (1 : Int32)) (by decide) (by decide) (by decide) (by decide)
  have l_82 : lq x_80.toInt (h0_length.toInt + 4) := lqm (by rw [ex_80]; have q := tadd h_73 (⟨by decide, by decide⟩ : rg 1 1 (1 : Int32)) (by decide) (by decide); have r0 := lqe l_74; have r1 := lqe (lqm (by decide) : lq (1 : Int32).toInt 1); omega)
  refine va_put (D := D) (ci := 6) (v := .int x_80) (ty := .int) (C := RX6) (T := TX6) (N := 10) hx hb hts k2 tyX6 tyX6_ok nmX6 hown hK.1 hP hD hS 0 rfl rfl 1 (by decide) k1 (fun _ h9 => h9) rfl (by decide +kernel) rfl rfl (Nat.le_of_ble_eq_true rfl) dX6_append_40 (fun H locs hP hD hS => ?_)
  have hP : va_P D vwCl [(h0, .inr (6, [.ref h0_bytes, .int x_80, .int h0_faultKind, .int h0_faultAt, .long h0_letters, .int h0_mostBytes, .int h0_behind, .int h0_at, .int h0_kind, .int h0_number])), (aI ca h0_bytes 940 g_78)] H := hP
  have hD : va_D A [(h0, .inr (6, [.ref h0_bytes, .int x_80, .int h0_faultKind, .int h0_faultAt, .long h0_letters, .int h0_mostBytes, .int h0_behind, .int h0_at, .int h0_kind, .int h0_number])), (aI ca h0_bytes 940 g_78)] := hD
  refine lv_iinc (v := (-8)) (lv' := [(2, .int (-8)), (0, .ref h0), (1, .int a1)]) hx hb dX6_append_43 hl (k := 0) rfl (by decide) (by decide) rfl (fun ls hl => ?_)
  refine lv_goto (tgt := 3) hx hb dX6_append_46 (by decide) ?_
  refine lv_iload_n hx hb dX6_append_3 rfl (lv_at hl 0 rfl) ?_
  refine lv_if_lt (tgt := 49) hx hb dX6_append_4 (by decide) (fun _ => ?_) (fun c => absurd (by decide) c)
  exact oE_v hx hb hr hlocks hP hD hS (x_80, g_78) [0, 1] rfl (by decide) ⟨h_81, s_79, (show rl 4 h0_length x_80 from rlm (by have q0 := lqe l_82; omega)), (show rl (-4) x_80 h0_length from rlm (by have q0 := lqe l_82; omega))⟩ (Nat.le_of_ble_eq_true rfl) (Nat.le_of_ble_eq_true rfl) dX6_append_49
theorem dX11_feed_0 : decode cX11_feed 0 = .ok (.aload_n 0, 1) := by decide +kernel
theorem dX11_feed_1 : decode cX11_feed 1 = .ok (.getfield 10, 3) := by decide +kernel
theorem dX11_feed_4 : decode cX11_feed 4 = .ok (.getfield 102, 3) := by decide +kernel
theorem dX11_feed_7 : decode cX11_feed 7 = .ok (.bipush 20, 2) := by decide +kernel
theorem dX11_feed_9 : decode cX11_feed 9 = .ok (.iadd, 1) := by decide +kernel
theorem dX11_feed_10 : decode cX11_feed 10 = .ok (.sipush 940, 3) := by decide +kernel
theorem dX11_feed_13 : decode cX11_feed 13 = .ok (.if_icmp .le 5, 3) := by decide +kernel
theorem dX11_feed_16 : decode cX11_feed 16 = .ok (.iconst (-1), 1) := by decide +kernel
theorem dX11_feed_17 : decode cX11_feed 17 = .ok (.ireturn, 1) := by decide +kernel
theorem dX11_feed_18 : decode cX11_feed 18 = .ok (.aload_n 0, 1) := by decide +kernel
theorem dX11_feed_19 : decode cX11_feed 19 = .ok (.getfield 10, 3) := by decide +kernel
theorem dX11_feed_22 : decode cX11_feed 22 = .ok (.iload_n 1, 1) := by decide +kernel
theorem dX11_feed_23 : decode cX11_feed 23 = .ok (.invokevirtual 106, 3) := by decide +kernel
theorem dX11_feed_26 : decode cX11_feed 26 = .ok (.aload_n 0, 1) := by decide +kernel
theorem dX11_feed_27 : decode cX11_feed 27 = .ok (.getfield 10, 3) := by decide +kernel
theorem dX11_feed_30 : decode cX11_feed 30 = .ok (.iload_n 2, 1) := by decide +kernel
theorem dX11_feed_31 : decode cX11_feed 31 = .ok (.invokevirtual 106, 3) := by decide +kernel
theorem dX11_feed_34 : decode cX11_feed 34 = .ok (.aload_n 0, 1) := by decide +kernel
theorem dX11_feed_35 : decode cX11_feed 35 = .ok (.getfield 10, 3) := by decide +kernel
theorem dX11_feed_38 : decode cX11_feed 38 = .ok (.iload_n 3, 1) := by decide +kernel
theorem dX11_feed_39 : decode cX11_feed 39 = .ok (.invokevirtual 106, 3) := by decide +kernel
theorem dX11_feed_42 : decode cX11_feed 42 = .ok (.aload_n 0, 1) := by decide +kernel
theorem dX11_feed_43 : decode cX11_feed 43 = .ok (.getfield 10, 3) := by decide +kernel
theorem dX11_feed_46 : decode cX11_feed 46 = .ok (.iload 4, 2) := by decide +kernel
theorem dX11_feed_48 : decode cX11_feed 48 = .ok (.invokevirtual 106, 3) := by decide +kernel
theorem dX11_feed_51 : decode cX11_feed 51 = .ok (.aload_n 0, 1) := by decide +kernel
theorem dX11_feed_52 : decode cX11_feed 52 = .ok (.getfield 10, 3) := by decide +kernel
theorem dX11_feed_55 : decode cX11_feed 55 = .ok (.iload 5, 2) := by decide +kernel
theorem dX11_feed_57 : decode cX11_feed 57 = .ok (.invokevirtual 106, 3) := by decide +kernel
theorem dX11_feed_60 : decode cX11_feed 60 = .ok (.aload_n 0, 1) := by decide +kernel
theorem dX11_feed_61 : decode cX11_feed 61 = .ok (.getfield 10, 3) := by decide +kernel
theorem dX11_feed_64 : decode cX11_feed 64 = .ok (.getfield 102, 3) := by decide +kernel
theorem dX11_feed_67 : decode cX11_feed 67 = .ok (.ireturn, 1) := by decide +kernel
set_option maxRecDepth 20000 in
theorem ggX11_feed_X6_append : GoodIn wsX11_feed wsX6_append := goodIn_r _ [7, 8, 9, 25, 26, 27, 28, 29, 30, 31, 32, 33, 34] rfl (by decide +kernel)
set_option maxRecDepth 20000 in
theorem gX11_feed_X6_append : GoodIn wsX11_feed (wsV RX11 106 RX6 yX6_append wsX6_append) := goodIn_app (goodIn_of _ (by decide +kernel)) ggX11_feed_X6_append
set_option maxHeartbeats 4000000 in
set_option maxRecDepth 100000 in
theorem e_X11_feed (l : Launch) (D : va_G) (ca : Nat → ClassId) (sz : Nat) (h0 : Nat) (a1 : Int32) (a2 : Int32) (a3 : Int32) (a4 : Int32) (a5 : Int32) (h0_tape : Nat) (h0_law : Nat) (h0_standing : Nat) (h0_saying : Nat) (h0_courtReader : Nat) (h0_bookReader : Nat) (h0_sentenceReader : Nat) (h0_bench : Nat) (h0_whatIf : Nat) (h0_history : Nat) (h0_images : Nat) (h0_latest : Nat) (h0_latestBook : Nat) (h0_latestRoll : Nat) (h0_rollLength : Int32) (h0_tape_bytes : Nat) (h0_tape_length : Int32) (h0_tape_faultKind : Int32) (h0_tape_faultAt : Int32) (h0_tape_letters : Int64) (h0_tape_mostBytes : Int32) (h0_tape_behind : Int32) (h0_tape_at : Int32) (h0_tape_kind : Int32) (h0_tape_number : Int32) (F_h0_tape_bytes : Nat → Int32) (i_h0_rollLength : rg 0 40 h0_rollLength) (i_h0_tape_length : rg 0 940 h0_tape_length) (i_h0_tape_faultKind : rg 0 4 h0_tape_faultKind) (i_h0_tape_behind : rg 0 940 h0_tape_behind) (s_h0_tape_bytes_0 : sg 0 940 0 255 F_h0_tape_bytes) : oMet l yX11_feed wsX11_feed ({ frames := 1, cells := 0, slots := 0, locals := 22 } : Room) [.ref h0, .int a1, .int a2, .int a3, .int a4, .int a5] D ca sz [(h0, .inr (10, [.ref h0_tape, .ref h0_law, .ref h0_standing, .ref h0_saying, .ref h0_courtReader, .ref h0_bookReader, .ref h0_sentenceReader, .ref h0_bench, .ref h0_whatIf, .ref h0_history, .ref h0_images, .ref h0_latest, .ref h0_latestBook, .ref h0_latestRoll, .int h0_rollLength])), (h0_tape, .inr (6, [.ref h0_tape_bytes, .int h0_tape_length, .int h0_tape_faultKind, .int h0_tape_faultAt, .long h0_tape_letters, .int h0_tape_mostBytes, .int h0_tape_behind, .int h0_tape_at, .int h0_tape_kind, .int h0_tape_number])), (aI ca h0_tape_bytes 940 F_h0_tape_bytes)] (oQi D (fun (r : Int32) (u : Int32 × (Nat → Int32)) => (rg (-1) 940 r) ∧ (rg 0 940 u.1) ∧ (sg 0 940 0 255 u.2) ∧ (rl 0 h0_tape_length u.1) ∧ ((r, u.1, u.2) = y_X11_feed a1 a2 a3 a4 a5 h0_tape_length F_h0_tape_bytes)) (fun (u : Int32 × (Nat → Int32)) => [(h0, .inr (10, [.ref h0_tape, .ref h0_law, .ref h0_standing, .ref h0_saying, .ref h0_courtReader, .ref h0_bookReader, .ref h0_sentenceReader, .ref h0_bench, .ref h0_whatIf, .ref h0_history, .ref h0_images, .ref h0_latest, .ref h0_latestBook, .ref h0_latestRoll, .int h0_rollLength])), (h0_tape, .inr (6, [.ref h0_tape_bytes, .int u.1, .int h0_tape_faultKind, .int h0_tape_faultAt, .long h0_tape_letters, .int h0_tape_mostBytes, .int h0_tape_behind, .int h0_tape_at, .int h0_tape_kind, .int h0_tape_number])), (aI ca h0_tape_bytes 940 u.2)])) 0 0 := by
  refine oM (cc := cX11_feed) (maxL := 6) (ret := (some .int)) (by decide) rfl (Nat.le_of_ble_eq_true rfl) [(0, .ref h0), (1, .int a1), (2, .int a2), (3, .int a3), (4, .int a4), (5, .int a5)] rfl ?_
  intro p e s m below meth c A H locs ls hx hb hr hml hts hown hlocks hin hK hP hD hA hS hl
  have hown : s.vm.findClass RX11 = some m.cls := hown
  have hY := y_X11_feed_s a1 a2 a3 a4 a5 h0_tape_length F_h0_tape_bytes
  have k1 := hts (.fieldLink RX11 10 "LidCourt" "tape" "LLidCourt$Reader;") (by decide +kernel)
  have k2 : ∀ w ∈ wsX110, w ∈ wsX11_feed := fun _ h => List.mem_cons_of_mem _ (List.mem_append_left _ (List.mem_append_right _ h))
  have k3 := hts (.fieldLink RX11 102 "LidCourt$Reader" "length" "I") (by decide +kernel)
  have k4 : ∀ w ∈ wsX60, w ∈ wsX11_feed := fun _ h => List.mem_cons_of_mem _ (List.mem_append_right _ h)
  refine lv_aload_n hx hb dX11_feed_0 rfl (lv_at hl 0 rfl) ?_
  refine va_get (D := D) (ci := 10) (v := .ref h0_tape) (C := RX11) (T := TX11) (N := 15) hx hb hts k2 hown hK.1 hP 0 rfl rfl 0 (by decide) k1 (fun _ h9 => h9) rfl dX11_feed_1 ?_
  refine va_get (D := D) (ci := 6) (v := .int h0_tape_length) (C := RX6) (T := TX6) (N := 10) hx hb hts k4 hown hK.1 hP 1 rfl rfl 1 (by decide) k3 (fun _ h9 => h9) rfl dX11_feed_4 ?_
  refine lv_bipush (v := 20) hx hb dX11_feed_7 (by decide) ?_
  refine lv_iadd hx hb dX11_feed_9 ?_
  refine lv_topi (fun x_51 ex_51 => ?_)
  have hY := hY.trans (lt1_e ex_51)
  have h_52 : rg 20 960 x_51 := by rw [ex_51]; exact rg_add i_h0_tape_length (⟨by decide, by decide⟩ : rg 20 20 (20 : Int32)) (by decide) (by decide) (by decide) (by decide)
  have l_53 : lq x_51.toInt (h0_tape_length.toInt + 20) := lqm (by rw [ex_51]; have q := tadd i_h0_tape_length (⟨by decide, by decide⟩ : rg 20 20 (20 : Int32)) (by decide) (by decide); have r1 := lqe (lqm (by decide) : lq (20 : Int32).toInt 20); omega)
  refine lv_sipush (v := 940) hx hb dX11_feed_10 (by decide) ?_
  refine lv_icmp_le (tgt := 18) hx hb dX11_feed_13 (by decide) (fun c_54 => ?_) (fun c_54 => ?_)
  · skip
    have hY := hY.trans (if_pos c_54)
    have o_55 : rl 0 x_51 940 := rl_le c_54
    have h_56 : rg 20 940 x_51 := rl_x o_55 h_52 (⟨by decide, by decide⟩ : rg 940 940 (940 : Int32)) (by decide) (by decide)
    have h_57 : rg 0 920 h0_tape_length := ⟨by have q := lqe l_53; have q1 := (h_56).1; have q2 := (i_h0_tape_length).1; omega, by have q := lqe l_53; have q1 := (h_56).2; have q2 := (i_h0_tape_length).2; omega⟩
    refine lv_aload_n hx hb dX11_feed_18 rfl (lv_at hl 0 rfl) ?_
    refine va_get (D := D) (ci := 10) (v := .ref h0_tape) (C := RX11) (T := TX11) (N := 15) hx hb hts k2 hown hK.1 hP 0 rfl rfl 0 (by decide) k1 (fun _ h9 => h9) rfl dX11_feed_19 ?_
    refine lv_iload_n hx hb dX11_feed_22 rfl (lv_at hl 1 rfl) ?_
    refine oC_v (Wc := [(h0_tape, .inr (6, [.ref h0_tape_bytes, .int h0_tape_length, .int h0_tape_faultKind, .int h0_tape_faultAt, .long h0_tape_letters, .int h0_tape_mostBytes, .int h0_tape_behind, .int h0_tape_at, .int h0_tape_kind, .int h0_tape_number])), (aI ca h0_tape_bytes 940 F_h0_tape_bytes)]) (Wr := [(h0, .inr (10, [.ref h0_tape, .ref h0_law, .ref h0_standing, .ref h0_saying, .ref h0_courtReader, .ref h0_bookReader, .ref h0_sentenceReader, .ref h0_bench, .ref h0_whatIf, .ref h0_history, .ref h0_images, .ref h0_latest, .ref h0_latestBook, .ref h0_latestRoll, .int h0_rollLength]))]) (va_runV (As := [.int a1]) (rest := []) ⟨hx, hb, hml, hown, hts⟩ (e_X6_append l D ca H.size h0_tape a1 h0_tape_bytes h0_tape_length h0_tape_faultKind h0_tape_faultAt h0_tape_letters h0_tape_mostBytes h0_tape_behind h0_tape_at h0_tape_kind h0_tape_number F_h0_tape_bytes (rgw (lo := 0) (hi := 940) h_57 (by decide) (by decide)) i_h0_tape_faultKind i_h0_tape_behind s_h0_tape_bytes_0) (cwV 1 hts gX11_feed_X6_append rfl rfl rfl (by decide +kernel) ⟨Nat.le_of_ble_eq_true rfl, Nat.le_of_ble_eq_true rfl⟩) (oPV (C := RX6) hK hP hD [1, 2] rfl (by decide) 0 rfl (ci := 6) rfl rfl) rfl rfl hl.1 rfl (lv_room (Nat.le_of_ble_eq_true rfl)) dX11_feed_23 ⟨Nat.le_of_ble_eq_true rfl, Nat.le_of_ble_eq_true rfl⟩) hP hD hS hA [1, 2] [0] rfl rfl (by decide) (by decide) (fun u H locs w_59 hP hD hS => ?_)
    obtain ⟨u_60, u_61⟩ := u
    have hP : va_P D vwCl [(h0, .inr (10, [.ref h0_tape, .ref h0_law, .ref h0_standing, .ref h0_saying, .ref h0_courtReader, .ref h0_bookReader, .ref h0_sentenceReader, .ref h0_bench, .ref h0_whatIf, .ref h0_history, .ref h0_images, .ref h0_latest, .ref h0_latestBook, .ref h0_latestRoll, .int h0_rollLength])), (h0_tape, .inr (6, [.ref h0_tape_bytes, .int u_60, .int h0_tape_faultKind, .int h0_tape_faultAt, .long h0_tape_letters, .int h0_tape_mostBytes, .int h0_tape_behind, .int h0_tape_at, .int h0_tape_kind, .int h0_tape_number])), (aI ca h0_tape_bytes 940 u_61)] H := hP
    have hD : va_D A [(h0, .inr (10, [.ref h0_tape, .ref h0_law, .ref h0_standing, .ref h0_saying, .ref h0_courtReader, .ref h0_bookReader, .ref h0_sentenceReader, .ref h0_bench, .ref h0_whatIf, .ref h0_history, .ref h0_images, .ref h0_latest, .ref h0_latestBook, .ref h0_latestRoll, .int h0_rollLength])), (h0_tape, .inr (6, [.ref h0_tape_bytes, .int u_60, .int h0_tape_faultKind, .int h0_tape_faultAt, .long h0_tape_letters, .int h0_tape_mostBytes, .int h0_tape_behind, .int h0_tape_at, .int h0_tape_kind, .int h0_tape_number])), (aI ca h0_tape_bytes 940 u_61)] := hD
    try dsimp only at w_59
    obtain ⟨h_62, h_63, h_64, h_65⟩ := w_59
    have hY := hY.trans (lt2_e h_65)
    refine lv_aload_n hx hb dX11_feed_26 rfl (lv_at hl 0 rfl) ?_
    refine va_get (D := D) (ci := 10) (v := .ref h0_tape) (C := RX11) (T := TX11) (N := 15) hx hb hts k2 hown hK.1 hP 0 rfl rfl 0 (by decide) k1 (fun _ h9 => h9) rfl dX11_feed_27 ?_
    refine lv_iload_n hx hb dX11_feed_30 rfl (lv_at hl 2 rfl) ?_
    refine oC_v (Wc := [(h0_tape, .inr (6, [.ref h0_tape_bytes, .int u_60, .int h0_tape_faultKind, .int h0_tape_faultAt, .long h0_tape_letters, .int h0_tape_mostBytes, .int h0_tape_behind, .int h0_tape_at, .int h0_tape_kind, .int h0_tape_number])), (aI ca h0_tape_bytes 940 u_61)]) (Wr := [(h0, .inr (10, [.ref h0_tape, .ref h0_law, .ref h0_standing, .ref h0_saying, .ref h0_courtReader, .ref h0_bookReader, .ref h0_sentenceReader, .ref h0_bench, .ref h0_whatIf, .ref h0_history, .ref h0_images, .ref h0_latest, .ref h0_latestBook, .ref h0_latestRoll, .int h0_rollLength]))]) (va_runV (As := [.int a2]) (rest := []) ⟨hx, hb, hml, hown, hts⟩ (e_X6_append l D ca H.size h0_tape a2 h0_tape_bytes u_60 h0_tape_faultKind h0_tape_faultAt h0_tape_letters h0_tape_mostBytes h0_tape_behind h0_tape_at h0_tape_kind h0_tape_number u_61 h_62 i_h0_tape_faultKind i_h0_tape_behind h_63) (cwV 1 hts gX11_feed_X6_append rfl rfl rfl (by decide +kernel) ⟨Nat.le_of_ble_eq_true rfl, Nat.le_of_ble_eq_true rfl⟩) (oPV (C := RX6) hK hP hD [1, 2] rfl (by decide) 0 rfl (ci := 6) rfl rfl) rfl rfl hl.1 rfl (lv_room (Nat.le_of_ble_eq_true rfl)) dX11_feed_31 ⟨Nat.le_of_ble_eq_true rfl, Nat.le_of_ble_eq_true rfl⟩) hP hD hS hA [1, 2] [0] rfl rfl (by decide) (by decide) (fun u H locs w_67 hP hD hS => ?_)
    obtain ⟨u_68, u_69⟩ := u
    have hP : va_P D vwCl [(h0, .inr (10, [.ref h0_tape, .ref h0_law, .ref h0_standing, .ref h0_saying, .ref h0_courtReader, .ref h0_bookReader, .ref h0_sentenceReader, .ref h0_bench, .ref h0_whatIf, .ref h0_history, .ref h0_images, .ref h0_latest, .ref h0_latestBook, .ref h0_latestRoll, .int h0_rollLength])), (h0_tape, .inr (6, [.ref h0_tape_bytes, .int u_68, .int h0_tape_faultKind, .int h0_tape_faultAt, .long h0_tape_letters, .int h0_tape_mostBytes, .int h0_tape_behind, .int h0_tape_at, .int h0_tape_kind, .int h0_tape_number])), (aI ca h0_tape_bytes 940 u_69)] H := hP
    have hD : va_D A [(h0, .inr (10, [.ref h0_tape, .ref h0_law, .ref h0_standing, .ref h0_saying, .ref h0_courtReader, .ref h0_bookReader, .ref h0_sentenceReader, .ref h0_bench, .ref h0_whatIf, .ref h0_history, .ref h0_images, .ref h0_latest, .ref h0_latestBook, .ref h0_latestRoll, .int h0_rollLength])), (h0_tape, .inr (6, [.ref h0_tape_bytes, .int u_68, .int h0_tape_faultKind, .int h0_tape_faultAt, .long h0_tape_letters, .int h0_tape_mostBytes, .int h0_tape_behind, .int h0_tape_at, .int h0_tape_kind, .int h0_tape_number])), (aI ca h0_tape_bytes 940 u_69)] := hD
    try dsimp only at w_67
    obtain ⟨h_70, h_71, h_72, h_73⟩ := w_67
    have hY := hY.trans (lt2_e h_73)
    refine lv_aload_n hx hb dX11_feed_34 rfl (lv_at hl 0 rfl) ?_
    refine va_get (D := D) (ci := 10) (v := .ref h0_tape) (C := RX11) (T := TX11) (N := 15) hx hb hts k2 hown hK.1 hP 0 rfl rfl 0 (by decide) k1 (fun _ h9 => h9) rfl dX11_feed_35 ?_
    refine lv_iload_n hx hb dX11_feed_38 rfl (lv_at hl 3 rfl) ?_
    refine oC_v (Wc := [(h0_tape, .inr (6, [.ref h0_tape_bytes, .int u_68, .int h0_tape_faultKind, .int h0_tape_faultAt, .long h0_tape_letters, .int h0_tape_mostBytes, .int h0_tape_behind, .int h0_tape_at, .int h0_tape_kind, .int h0_tape_number])), (aI ca h0_tape_bytes 940 u_69)]) (Wr := [(h0, .inr (10, [.ref h0_tape, .ref h0_law, .ref h0_standing, .ref h0_saying, .ref h0_courtReader, .ref h0_bookReader, .ref h0_sentenceReader, .ref h0_bench, .ref h0_whatIf, .ref h0_history, .ref h0_images, .ref h0_latest, .ref h0_latestBook, .ref h0_latestRoll, .int h0_rollLength]))]) (va_runV (As := [.int a3]) (rest := []) ⟨hx, hb, hml, hown, hts⟩ (e_X6_append l D ca H.size h0_tape a3 h0_tape_bytes u_68 h0_tape_faultKind h0_tape_faultAt h0_tape_letters h0_tape_mostBytes h0_tape_behind h0_tape_at h0_tape_kind h0_tape_number u_69 h_70 i_h0_tape_faultKind i_h0_tape_behind h_71) (cwV 1 hts gX11_feed_X6_append rfl rfl rfl (by decide +kernel) ⟨Nat.le_of_ble_eq_true rfl, Nat.le_of_ble_eq_true rfl⟩) (oPV (C := RX6) hK hP hD [1, 2] rfl (by decide) 0 rfl (ci := 6) rfl rfl) rfl rfl hl.1 rfl (lv_room (Nat.le_of_ble_eq_true rfl)) dX11_feed_39 ⟨Nat.le_of_ble_eq_true rfl, Nat.le_of_ble_eq_true rfl⟩) hP hD hS hA [1, 2] [0] rfl rfl (by decide) (by decide) (fun u H locs w_75 hP hD hS => ?_)
    obtain ⟨u_76, u_77⟩ := u
    have hP : va_P D vwCl [(h0, .inr (10, [.ref h0_tape, .ref h0_law, .ref h0_standing, .ref h0_saying, .ref h0_courtReader, .ref h0_bookReader, .ref h0_sentenceReader, .ref h0_bench, .ref h0_whatIf, .ref h0_history, .ref h0_images, .ref h0_latest, .ref h0_latestBook, .ref h0_latestRoll, .int h0_rollLength])), (h0_tape, .inr (6, [.ref h0_tape_bytes, .int u_76, .int h0_tape_faultKind, .int h0_tape_faultAt, .long h0_tape_letters, .int h0_tape_mostBytes, .int h0_tape_behind, .int h0_tape_at, .int h0_tape_kind, .int h0_tape_number])), (aI ca h0_tape_bytes 940 u_77)] H := hP
    have hD : va_D A [(h0, .inr (10, [.ref h0_tape, .ref h0_law, .ref h0_standing, .ref h0_saying, .ref h0_courtReader, .ref h0_bookReader, .ref h0_sentenceReader, .ref h0_bench, .ref h0_whatIf, .ref h0_history, .ref h0_images, .ref h0_latest, .ref h0_latestBook, .ref h0_latestRoll, .int h0_rollLength])), (h0_tape, .inr (6, [.ref h0_tape_bytes, .int u_76, .int h0_tape_faultKind, .int h0_tape_faultAt, .long h0_tape_letters, .int h0_tape_mostBytes, .int h0_tape_behind, .int h0_tape_at, .int h0_tape_kind, .int h0_tape_number])), (aI ca h0_tape_bytes 940 u_77)] := hD
    try dsimp only at w_75
    obtain ⟨h_78, h_79, h_80, h_81⟩ := w_75
    have hY := hY.trans (lt2_e h_81)
    refine lv_aload_n hx hb dX11_feed_42 rfl (lv_at hl 0 rfl) ?_
    refine va_get (D := D) (ci := 10) (v := .ref h0_tape) (C := RX11) (T := TX11) (N := 15) hx hb hts k2 hown hK.1 hP 0 rfl rfl 0 (by decide) k1 (fun _ h9 => h9) rfl dX11_feed_43 ?_
    refine lv_iload hx hb dX11_feed_46 (lv_at hl 4 rfl) ?_
    refine oC_v (Wc := [(h0_tape, .inr (6, [.ref h0_tape_bytes, .int u_76, .int h0_tape_faultKind, .int h0_tape_faultAt, .long h0_tape_letters, .int h0_tape_mostBytes, .int h0_tape_behind, .int h0_tape_at, .int h0_tape_kind, .int h0_tape_number])), (aI ca h0_tape_bytes 940 u_77)]) (Wr := [(h0, .inr (10, [.ref h0_tape, .ref h0_law, .ref h0_standing, .ref h0_saying, .ref h0_courtReader, .ref h0_bookReader, .ref h0_sentenceReader, .ref h0_bench, .ref h0_whatIf, .ref h0_history, .ref h0_images, .ref h0_latest, .ref h0_latestBook, .ref h0_latestRoll, .int h0_rollLength]))]) (va_runV (As := [.int a4]) (rest := []) ⟨hx, hb, hml, hown, hts⟩ (e_X6_append l D ca H.size h0_tape a4 h0_tape_bytes u_76 h0_tape_faultKind h0_tape_faultAt h0_tape_letters h0_tape_mostBytes h0_tape_behind h0_tape_at h0_tape_kind h0_tape_number u_77 h_78 i_h0_tape_faultKind i_h0_tape_behind h_79) (cwV 1 hts gX11_feed_X6_append rfl rfl rfl (by decide +kernel) ⟨Nat.le_of_ble_eq_true rfl, Nat.le_of_ble_eq_true rfl⟩) (oPV (C := RX6) hK hP hD [1, 2] rfl (by decide) 0 rfl (ci := 6) rfl rfl) rfl rfl hl.1 rfl (lv_room (Nat.le_of_ble_eq_true rfl)) dX11_feed_48 ⟨Nat.le_of_ble_eq_true rfl, Nat.le_of_ble_eq_true rfl⟩) hP hD hS hA [1, 2] [0] rfl rfl (by decide) (by decide) (fun u H locs w_83 hP hD hS => ?_)
    obtain ⟨u_84, u_85⟩ := u
    have hP : va_P D vwCl [(h0, .inr (10, [.ref h0_tape, .ref h0_law, .ref h0_standing, .ref h0_saying, .ref h0_courtReader, .ref h0_bookReader, .ref h0_sentenceReader, .ref h0_bench, .ref h0_whatIf, .ref h0_history, .ref h0_images, .ref h0_latest, .ref h0_latestBook, .ref h0_latestRoll, .int h0_rollLength])), (h0_tape, .inr (6, [.ref h0_tape_bytes, .int u_84, .int h0_tape_faultKind, .int h0_tape_faultAt, .long h0_tape_letters, .int h0_tape_mostBytes, .int h0_tape_behind, .int h0_tape_at, .int h0_tape_kind, .int h0_tape_number])), (aI ca h0_tape_bytes 940 u_85)] H := hP
    have hD : va_D A [(h0, .inr (10, [.ref h0_tape, .ref h0_law, .ref h0_standing, .ref h0_saying, .ref h0_courtReader, .ref h0_bookReader, .ref h0_sentenceReader, .ref h0_bench, .ref h0_whatIf, .ref h0_history, .ref h0_images, .ref h0_latest, .ref h0_latestBook, .ref h0_latestRoll, .int h0_rollLength])), (h0_tape, .inr (6, [.ref h0_tape_bytes, .int u_84, .int h0_tape_faultKind, .int h0_tape_faultAt, .long h0_tape_letters, .int h0_tape_mostBytes, .int h0_tape_behind, .int h0_tape_at, .int h0_tape_kind, .int h0_tape_number])), (aI ca h0_tape_bytes 940 u_85)] := hD
    try dsimp only at w_83
    obtain ⟨h_86, h_87, h_88, h_89⟩ := w_83
    have hY := hY.trans (lt2_e h_89)
    refine lv_aload_n hx hb dX11_feed_51 rfl (lv_at hl 0 rfl) ?_
    refine va_get (D := D) (ci := 10) (v := .ref h0_tape) (C := RX11) (T := TX11) (N := 15) hx hb hts k2 hown hK.1 hP 0 rfl rfl 0 (by decide) k1 (fun _ h9 => h9) rfl dX11_feed_52 ?_
    refine lv_iload hx hb dX11_feed_55 (lv_at hl 5 rfl) ?_
    refine oC_v (Wc := [(h0_tape, .inr (6, [.ref h0_tape_bytes, .int u_84, .int h0_tape_faultKind, .int h0_tape_faultAt, .long h0_tape_letters, .int h0_tape_mostBytes, .int h0_tape_behind, .int h0_tape_at, .int h0_tape_kind, .int h0_tape_number])), (aI ca h0_tape_bytes 940 u_85)]) (Wr := [(h0, .inr (10, [.ref h0_tape, .ref h0_law, .ref h0_standing, .ref h0_saying, .ref h0_courtReader, .ref h0_bookReader, .ref h0_sentenceReader, .ref h0_bench, .ref h0_whatIf, .ref h0_history, .ref h0_images, .ref h0_latest, .ref h0_latestBook, .ref h0_latestRoll, .int h0_rollLength]))]) (va_runV (As := [.int a5]) (rest := []) ⟨hx, hb, hml, hown, hts⟩ (e_X6_append l D ca H.size h0_tape a5 h0_tape_bytes u_84 h0_tape_faultKind h0_tape_faultAt h0_tape_letters h0_tape_mostBytes h0_tape_behind h0_tape_at h0_tape_kind h0_tape_number u_85 h_86 i_h0_tape_faultKind i_h0_tape_behind h_87) (cwV 1 hts gX11_feed_X6_append rfl rfl rfl (by decide +kernel) ⟨Nat.le_of_ble_eq_true rfl, Nat.le_of_ble_eq_true rfl⟩) (oPV (C := RX6) hK hP hD [1, 2] rfl (by decide) 0 rfl (ci := 6) rfl rfl) rfl rfl hl.1 rfl (lv_room (Nat.le_of_ble_eq_true rfl)) dX11_feed_57 ⟨Nat.le_of_ble_eq_true rfl, Nat.le_of_ble_eq_true rfl⟩) hP hD hS hA [1, 2] [0] rfl rfl (by decide) (by decide) (fun u H locs w_91 hP hD hS => ?_)
    obtain ⟨u_92, u_93⟩ := u
    have hP : va_P D vwCl [(h0, .inr (10, [.ref h0_tape, .ref h0_law, .ref h0_standing, .ref h0_saying, .ref h0_courtReader, .ref h0_bookReader, .ref h0_sentenceReader, .ref h0_bench, .ref h0_whatIf, .ref h0_history, .ref h0_images, .ref h0_latest, .ref h0_latestBook, .ref h0_latestRoll, .int h0_rollLength])), (h0_tape, .inr (6, [.ref h0_tape_bytes, .int u_92, .int h0_tape_faultKind, .int h0_tape_faultAt, .long h0_tape_letters, .int h0_tape_mostBytes, .int h0_tape_behind, .int h0_tape_at, .int h0_tape_kind, .int h0_tape_number])), (aI ca h0_tape_bytes 940 u_93)] H := hP
    have hD : va_D A [(h0, .inr (10, [.ref h0_tape, .ref h0_law, .ref h0_standing, .ref h0_saying, .ref h0_courtReader, .ref h0_bookReader, .ref h0_sentenceReader, .ref h0_bench, .ref h0_whatIf, .ref h0_history, .ref h0_images, .ref h0_latest, .ref h0_latestBook, .ref h0_latestRoll, .int h0_rollLength])), (h0_tape, .inr (6, [.ref h0_tape_bytes, .int u_92, .int h0_tape_faultKind, .int h0_tape_faultAt, .long h0_tape_letters, .int h0_tape_mostBytes, .int h0_tape_behind, .int h0_tape_at, .int h0_tape_kind, .int h0_tape_number])), (aI ca h0_tape_bytes 940 u_93)] := hD
    try dsimp only at w_91
    obtain ⟨h_94, h_95, h_96, h_97⟩ := w_91
    have hY := hY.trans (lt2_e h_97)
    refine lv_aload_n hx hb dX11_feed_60 rfl (lv_at hl 0 rfl) ?_
    refine va_get (D := D) (ci := 10) (v := .ref h0_tape) (C := RX11) (T := TX11) (N := 15) hx hb hts k2 hown hK.1 hP 0 rfl rfl 0 (by decide) k1 (fun _ h9 => h9) rfl dX11_feed_61 ?_
    refine va_get (D := D) (ci := 6) (v := .int u_92) (C := RX6) (T := TX6) (N := 10) hx hb hts k4 hown hK.1 hP 1 rfl rfl 1 (by decide) k3 (fun _ h9 => h9) rfl dX11_feed_64 ?_
    exact oE_i hx hb hr rfl hlocks hP hD hS (u_92, u_93) [0, 1, 2] rfl (by decide) ⟨(rgw (lo := (-1)) (hi := 940) h_94 (by decide) (by decide)), h_94, h_95, (show rl 0 h0_tape_length u_92 from rlm (by have q0 := rle h_64; have q1 := rle h_72; have q2 := rle h_80; have q3 := rle h_88; have q4 := rle h_96; omega)), hY.symm⟩ (Nat.le_of_ble_eq_true rfl) (Nat.le_of_ble_eq_true rfl) dX11_feed_67
  · skip
    have hY := hY.trans (if_neg c_54)
    have o_98 : rl 1 940 x_51 := rl_nle c_54
    have h_99 : rg 941 960 x_51 := rl_y o_98 (⟨by decide, by decide⟩ : rg 940 940 (940 : Int32)) h_52 (by decide) (by decide)
    have h_100 : rg 921 940 h0_tape_length := ⟨by have q := lqe l_53; have q1 := (h_99).1; have q2 := (i_h0_tape_length).1; omega, by have q := lqe l_53; have q1 := (h_99).2; have q2 := (i_h0_tape_length).2; omega⟩
    refine lv_iconst (v := (-1)) hx hb dX11_feed_16 (by decide) ?_
    exact oE_i hx hb hr rfl hlocks hP hD hS (h0_tape_length, F_h0_tape_bytes) [0, 1, 2] rfl (by decide) ⟨(⟨by decide, by decide⟩ : rg (-1) 940 ((-1) : Int32)), (rgw (lo := 0) (hi := 940) h_100 (by decide) (by decide)), s_h0_tape_bytes_0, (show rl 0 h0_tape_length h0_tape_length from rlm (by omega)), hY.symm⟩ (Nat.le_of_ble_eq_true rfl) (Nat.le_of_ble_eq_true rfl) dX11_feed_17
theorem dX11_end_0 : decode cX11_end 0 = .ok (.iload_n 1, 1) := by decide +kernel
theorem dX11_end_1 : decode cX11_end 1 = .ok (.ifCond .lt 14, 3) := by decide +kernel
theorem dX11_end_4 : decode cX11_end 4 = .ok (.iload_n 1, 1) := by decide +kernel
theorem dX11_end_5 : decode cX11_end 5 = .ok (.aload_n 0, 1) := by decide +kernel
theorem dX11_end_6 : decode cX11_end 6 = .ok (.getfield 10, 3) := by decide +kernel
theorem dX11_end_9 : decode cX11_end 9 = .ok (.getfield 102, 3) := by decide +kernel
theorem dX11_end_12 : decode cX11_end 12 = .ok (.if_icmp .le 5, 3) := by decide +kernel
theorem dX11_end_15 : decode cX11_end 15 = .ok (.iconst 0, 1) := by decide +kernel
theorem dX11_end_16 : decode cX11_end 16 = .ok (.ireturn, 1) := by decide +kernel
theorem dX11_end_17 : decode cX11_end 17 = .ok (.aload_n 0, 1) := by decide +kernel
theorem dX11_end_18 : decode cX11_end 18 = .ok (.getfield 10, 3) := by decide +kernel
theorem dX11_end_21 : decode cX11_end 21 = .ok (.iload_n 1, 1) := by decide +kernel
theorem dX11_end_22 : decode cX11_end 22 = .ok (.putfield 102, 3) := by decide +kernel
theorem dX11_end_25 : decode cX11_end 25 = .ok (.iconst 1, 1) := by decide +kernel
theorem dX11_end_26 : decode cX11_end 26 = .ok (.ireturn, 1) := by decide +kernel
set_option maxHeartbeats 4000000 in
set_option maxRecDepth 100000 in
theorem s_X11_end (l : Launch) (D : va_G) (ca : Nat → ClassId) (sz : Nat) (h0 : Nat) (a1 : Int32) (h0_tape : Nat) (h0_law : Nat) (h0_standing : Nat) (h0_saying : Nat) (h0_courtReader : Nat) (h0_bookReader : Nat) (h0_sentenceReader : Nat) (h0_bench : Nat) (h0_whatIf : Nat) (h0_history : Nat) (h0_images : Nat) (h0_latest : Nat) (h0_latestBook : Nat) (h0_latestRoll : Nat) (h0_rollLength : Int32) (h0_tape_bytes : Nat) (h0_tape_length : Int32) (h0_tape_faultKind : Int32) (h0_tape_faultAt : Int32) (h0_tape_letters : Int64) (h0_tape_mostBytes : Int32) (h0_tape_behind : Int32) (h0_tape_at : Int32) (h0_tape_kind : Int32) (h0_tape_number : Int32) (i_h0_rollLength : rg 0 40 h0_rollLength) (i_h0_tape_length : rg 0 940 h0_tape_length) (i_h0_tape_faultKind : rg 0 4 h0_tape_faultKind) (i_h0_tape_behind : rg 0 940 h0_tape_behind) : oMet l yX11_end wsX11_end ({ frames := 0, cells := 0, slots := 0, locals := 0 } : Room) [.ref h0, .int a1] D ca sz [(h0, .inr (10, [.ref h0_tape, .ref h0_law, .ref h0_standing, .ref h0_saying, .ref h0_courtReader, .ref h0_bookReader, .ref h0_sentenceReader, .ref h0_bench, .ref h0_whatIf, .ref h0_history, .ref h0_images, .ref h0_latest, .ref h0_latestBook, .ref h0_latestRoll, .int h0_rollLength])), (h0_tape, .inr (6, [.ref h0_tape_bytes, .int h0_tape_length, .int h0_tape_faultKind, .int h0_tape_faultAt, .long h0_tape_letters, .int h0_tape_mostBytes, .int h0_tape_behind, .int h0_tape_at, .int h0_tape_kind, .int h0_tape_number]))] (oQi D (fun (r : Int32) (u : Int32) => ((r = 0) ∧ (rg 0 940 u) ∧ (rl 0 h0_tape_length u) ∧ (rl 0 u h0_tape_length)) ∨ ((r = 1) ∧ (rg 0 940 u) ∧ (rg 0 940 a1) ∧ (rl 0 u h0_tape_length) ∧ (rl 0 a1 h0_tape_length))) (fun (u : Int32) => [(h0, .inr (10, [.ref h0_tape, .ref h0_law, .ref h0_standing, .ref h0_saying, .ref h0_courtReader, .ref h0_bookReader, .ref h0_sentenceReader, .ref h0_bench, .ref h0_whatIf, .ref h0_history, .ref h0_images, .ref h0_latest, .ref h0_latestBook, .ref h0_latestRoll, .int h0_rollLength])), (h0_tape, .inr (6, [.ref h0_tape_bytes, .int u, .int h0_tape_faultKind, .int h0_tape_faultAt, .long h0_tape_letters, .int h0_tape_mostBytes, .int h0_tape_behind, .int h0_tape_at, .int h0_tape_kind, .int h0_tape_number]))])) 0 0 := by
  refine oM (cc := cX11_end) (maxL := 2) (ret := (some .boolean)) (by decide) rfl (Nat.le_of_ble_eq_true rfl) [(0, .ref h0), (1, .int a1)] rfl ?_
  intro p e s m below meth c A H locs ls hx hb hr hml hts hown hlocks hin hK hP hD hA hS hl
  have hown : s.vm.findClass RX11 = some m.cls := hown
  have k1 := hts (.fieldLink RX11 10 "LidCourt" "tape" "LLidCourt$Reader;") (by decide +kernel)
  have k2 : ∀ w ∈ wsX110, w ∈ wsX11_end := fun _ h => List.mem_cons_of_mem _ (List.mem_append_left _ (List.mem_append_right _ h))
  have k3 := hts (.fieldLink RX11 102 "LidCourt$Reader" "length" "I") (by decide +kernel)
  have k4 : ∀ w ∈ wsX60, w ∈ wsX11_end := fun _ h => List.mem_cons_of_mem _ (List.mem_append_right _ h)
  refine lv_iload_n hx hb dX11_end_0 rfl (lv_at hl 1 rfl) ?_
  refine lv_if_lt (tgt := 15) hx hb dX11_end_1 (by decide) (fun c_11 => ?_) (fun c_11 => ?_)
  · skip
    have o_12 : rl 1 a1 0 := rl_lt c_11
    have h_13 : rg (-2147483648) (-1) a1 := rl_x o_12 (rga a1) (⟨by decide, by decide⟩ : rg 0 0 (0 : Int32)) (by decide) (by decide)
    refine lv_iconst (v := 0) hx hb dX11_end_15 (by decide) ?_
    exact oE_i hx hb hr (by decide) hlocks hP hD hS h0_tape_length [0, 1] rfl (by decide) (Or.inl ⟨rfl, i_h0_tape_length, (show rl 0 h0_tape_length h0_tape_length from rlm (by omega)), (show rl 0 h0_tape_length h0_tape_length from rlm (by omega))⟩) (Nat.le_of_ble_eq_true rfl) (Nat.le_of_ble_eq_true rfl) dX11_end_16
  · skip
    have o_14 : rl 0 0 a1 := rl_nlt c_11
    have h_15 : rg 0 2147483647 a1 := rl_y o_14 (⟨by decide, by decide⟩ : rg 0 0 (0 : Int32)) (rga a1) (by decide) (by decide)
    refine lv_iload_n hx hb dX11_end_4 rfl (lv_at hl 1 rfl) ?_
    refine lv_aload_n hx hb dX11_end_5 rfl (lv_at hl 0 rfl) ?_
    refine va_get (D := D) (ci := 10) (v := .ref h0_tape) (C := RX11) (T := TX11) (N := 15) hx hb hts k2 hown hK.1 hP 0 rfl rfl 0 (by decide) k1 (fun _ h9 => h9) rfl dX11_end_6 ?_
    refine va_get (D := D) (ci := 6) (v := .int h0_tape_length) (C := RX6) (T := TX6) (N := 10) hx hb hts k4 hown hK.1 hP 1 rfl rfl 1 (by decide) k3 (fun _ h9 => h9) rfl dX11_end_9 ?_
    refine lv_icmp_le (tgt := 17) hx hb dX11_end_12 (by decide) (fun c_16 => ?_) (fun c_16 => ?_)
    · skip
      have o_17 : rl 0 a1 h0_tape_length := rl_le c_16
      have h_18 : rg 0 940 a1 := rl_x o_17 h_15 i_h0_tape_length (by decide) (by decide)
      refine lv_aload_n hx hb dX11_end_17 rfl (lv_at hl 0 rfl) ?_
      refine va_get (D := D) (ci := 10) (v := .ref h0_tape) (C := RX11) (T := TX11) (N := 15) hx hb hts k2 hown hK.1 hP 0 rfl rfl 0 (by decide) k1 (fun _ h9 => h9) rfl dX11_end_18 ?_
      refine lv_iload_n hx hb dX11_end_21 rfl (lv_at hl 1 rfl) ?_
      refine va_put (D := D) (ci := 6) (v := .int a1) (ty := .int) (C := RX6) (T := TX6) (N := 10) hx hb hts k4 tyX6 tyX6_ok nmX6 hown hK.1 hP hD hS 1 rfl rfl 1 (by decide) k3 (fun _ h9 => h9) rfl (by decide +kernel) rfl rfl (Nat.le_of_ble_eq_true rfl) dX11_end_22 (fun H locs hP hD hS => ?_)
      have hP : va_P D vwCl [(h0, .inr (10, [.ref h0_tape, .ref h0_law, .ref h0_standing, .ref h0_saying, .ref h0_courtReader, .ref h0_bookReader, .ref h0_sentenceReader, .ref h0_bench, .ref h0_whatIf, .ref h0_history, .ref h0_images, .ref h0_latest, .ref h0_latestBook, .ref h0_latestRoll, .int h0_rollLength])), (h0_tape, .inr (6, [.ref h0_tape_bytes, .int a1, .int h0_tape_faultKind, .int h0_tape_faultAt, .long h0_tape_letters, .int h0_tape_mostBytes, .int h0_tape_behind, .int h0_tape_at, .int h0_tape_kind, .int h0_tape_number]))] H := hP
      have hD : va_D A [(h0, .inr (10, [.ref h0_tape, .ref h0_law, .ref h0_standing, .ref h0_saying, .ref h0_courtReader, .ref h0_bookReader, .ref h0_sentenceReader, .ref h0_bench, .ref h0_whatIf, .ref h0_history, .ref h0_images, .ref h0_latest, .ref h0_latestBook, .ref h0_latestRoll, .int h0_rollLength])), (h0_tape, .inr (6, [.ref h0_tape_bytes, .int a1, .int h0_tape_faultKind, .int h0_tape_faultAt, .long h0_tape_letters, .int h0_tape_mostBytes, .int h0_tape_behind, .int h0_tape_at, .int h0_tape_kind, .int h0_tape_number]))] := hD
      refine lv_iconst (v := 1) hx hb dX11_end_25 (by decide) ?_
      exact oE_i hx hb hr (by decide) hlocks hP hD hS a1 [0, 1] rfl (by decide) (Or.inr (⟨rfl, h_18, h_18, (show rl 0 a1 h0_tape_length from rlm (by have q0 := rle o_17; omega)), (show rl 0 a1 h0_tape_length from rlm (by have q0 := rle o_17; omega))⟩)) (Nat.le_of_ble_eq_true rfl) (Nat.le_of_ble_eq_true rfl) dX11_end_26
    · skip
      have o_19 : rl 1 h0_tape_length a1 := rl_nle c_16
      have h_20 : rg 1 2147483647 a1 := rl_y o_19 i_h0_tape_length h_15 (by decide) (by decide)
      refine lv_iconst (v := 0) hx hb dX11_end_15 (by decide) ?_
      exact oE_i hx hb hr (by decide) hlocks hP hD hS h0_tape_length [0, 1] rfl (by decide) (Or.inl ⟨rfl, i_h0_tape_length, (show rl 0 h0_tape_length h0_tape_length from rlm (by omega)), (show rl 0 h0_tape_length h0_tape_length from rlm (by omega))⟩) (Nat.le_of_ble_eq_true rfl) (Nat.le_of_ble_eq_true rfl) dX11_end_16
theorem dX5_empty_0 : decode cX5_empty 0 = .ok (.aload_n 0, 1) := by decide +kernel
theorem dX5_empty_1 : decode cX5_empty 1 = .ok (.iconst 0, 1) := by decide +kernel
theorem dX5_empty_2 : decode cX5_empty 2 = .ok (.putfield 43, 3) := by decide +kernel
theorem dX5_empty_5 : decode cX5_empty 5 = .ok (.aload_n 0, 1) := by decide +kernel
theorem dX5_empty_6 : decode cX5_empty 6 = .ok (.iconst 0, 1) := by decide +kernel
theorem dX5_empty_7 : decode cX5_empty 7 = .ok (.putfield 47, 3) := by decide +kernel
theorem dX5_empty_10 : decode cX5_empty 10 = .ok (.aload_n 0, 1) := by decide +kernel
theorem dX5_empty_11 : decode cX5_empty 11 = .ok (.iconst 0, 1) := by decide +kernel
theorem dX5_empty_12 : decode cX5_empty 12 = .ok (.putfield 50, 3) := by decide +kernel
theorem dX5_empty_15 : decode cX5_empty 15 = .ok (.aload_n 0, 1) := by decide +kernel
theorem dX5_empty_16 : decode cX5_empty 16 = .ok (.iconst 3, 1) := by decide +kernel
theorem dX5_empty_17 : decode cX5_empty 17 = .ok (.putfield 53, 3) := by decide +kernel
theorem dX5_empty_20 : decode cX5_empty 20 = .ok (.aload_n 0, 1) := by decide +kernel
theorem dX5_empty_21 : decode cX5_empty 21 = .ok (.iconst 1, 1) := by decide +kernel
theorem dX5_empty_22 : decode cX5_empty 22 = .ok (.putfield 56, 3) := by decide +kernel
theorem dX5_empty_25 : decode cX5_empty 25 = .ok (.aload_n 0, 1) := by decide +kernel
theorem dX5_empty_26 : decode cX5_empty 26 = .ok (.iconst 0, 1) := by decide +kernel
theorem dX5_empty_27 : decode cX5_empty 27 = .ok (.putfield 59, 3) := by decide +kernel
theorem dX5_empty_30 : decode cX5_empty 30 = .ok (.iconst 0, 1) := by decide +kernel
theorem dX5_empty_31 : decode cX5_empty 31 = .ok (.istore_n 1, 1) := by decide +kernel
theorem dX5_empty_32 : decode cX5_empty 32 = .ok (.iload_n 1, 1) := by decide +kernel
theorem dX5_empty_33 : decode cX5_empty 33 = .ok (.aload_n 0, 1) := by decide +kernel
theorem dX5_empty_34 : decode cX5_empty 34 = .ok (.getfield 40, 3) := by decide +kernel
theorem dX5_empty_37 : decode cX5_empty 37 = .ok (.arraylength, 1) := by decide +kernel
theorem dX5_empty_38 : decode cX5_empty 38 = .ok (.if_icmp .ge 16, 3) := by decide +kernel
theorem dX5_empty_41 : decode cX5_empty 41 = .ok (.aload_n 0, 1) := by decide +kernel
theorem dX5_empty_42 : decode cX5_empty 42 = .ok (.getfield 40, 3) := by decide +kernel
theorem dX5_empty_45 : decode cX5_empty 45 = .ok (.iload_n 1, 1) := by decide +kernel
theorem dX5_empty_46 : decode cX5_empty 46 = .ok (.iconst (-1), 1) := by decide +kernel
theorem dX5_empty_47 : decode cX5_empty 47 = .ok (.iastore, 1) := by decide +kernel
theorem dX5_empty_48 : decode cX5_empty 48 = .ok (.iinc 1 1, 3) := by decide +kernel
theorem dX5_empty_51 : decode cX5_empty 51 = .ok (.goto (-19), 3) := by decide +kernel
theorem dX5_empty_54 : decode cX5_empty 54 = .ok (.return_, 1) := by decide +kernel
set_option maxHeartbeats 4000000 in
set_option maxRecDepth 100000 in
theorem e_X5_empty (l : Launch) (D : va_G) (ca : Nat → ClassId) (sz : Nat) (h0 : Nat) (h0_jurors : Int32) (h0_floors : Int32) (h0_cases : Int32) (h0_one : Int32) (h0_dent : Int32) (h0_seated : Int32) (h0_jurorName : Nat) (h0_floorName : Nat) (h0_caseName : Nat) (h0_pitch : Nat) (h0_length : Nat) (h0_hands : Nat) (h0_tune : Nat) (h0_dull : Nat) (h0_caseFloor : Nat) (h0_tuned : Nat) (F_h0_tuned : Nat → Int32) (i_h0_jurors : rg 0 10 h0_jurors) (i_h0_floors : rg 0 4 h0_floors) (i_h0_cases : rg 0 5 h0_cases) (i_h0_seated : rg 0 1023 h0_seated) : oMet l yX5_empty wsX5_empty ({ frames := 0, cells := 0, slots := 0, locals := 0 } : Room) [.ref h0] D ca sz [(h0, .inr (5, [.int h0_jurors, .int h0_floors, .int h0_cases, .int h0_one, .int h0_dent, .int h0_seated, .ref h0_jurorName, .ref h0_floorName, .ref h0_caseName, .ref h0_pitch, .ref h0_length, .ref h0_hands, .ref h0_tune, .ref h0_dull, .ref h0_caseFloor, .ref h0_tuned])), (aI ca h0_tuned 40 F_h0_tuned)] (oQv D (fun (u : (Nat → Int32)) => (u = y_X5_empty F_h0_tuned)) (fun (u : (Nat → Int32)) => [(h0, .inr (5, [.int 0, .int 0, .int 0, .int 3, .int 1, .int 0, .ref h0_jurorName, .ref h0_floorName, .ref h0_caseName, .ref h0_pitch, .ref h0_length, .ref h0_hands, .ref h0_tune, .ref h0_dull, .ref h0_caseFloor, .ref h0_tuned])), (aI ca h0_tuned 40 u)])) 0 0 := by
  refine oM (cc := cX5_empty) (maxL := 2) (ret := none) (by decide) rfl (Nat.le_of_ble_eq_true rfl) [(0, .ref h0)] rfl ?_
  intro p e s m below meth c A H locs ls hx hb hr hml hts hown hlocks hin hK hP hD hA hS hl
  have hown : s.vm.findClass RX5 = some m.cls := hown
  have hY := y_X5_empty_s F_h0_tuned
  have k1 := hts (.fieldLink RX5 40 "LidCourt$Law" "tuned" "[I") (by decide +kernel)
  have k2 : ∀ w ∈ wsX50, w ∈ wsX5_empty := fun _ h => List.mem_cons_of_mem _ (List.mem_append_right _ h)
  have k3 := hts (.fieldLink RX5 43 "LidCourt$Law" "jurors" "I") (by decide +kernel)
  have k4 := hts (.fieldLink RX5 47 "LidCourt$Law" "floors" "I") (by decide +kernel)
  have k5 := hts (.fieldLink RX5 50 "LidCourt$Law" "cases" "I") (by decide +kernel)
  have k6 := hts (.fieldLink RX5 53 "LidCourt$Law" "one" "I") (by decide +kernel)
  have k7 := hts (.fieldLink RX5 56 "LidCourt$Law" "dent" "I") (by decide +kernel)
  have k8 := hts (.fieldLink RX5 59 "LidCourt$Law" "seated" "I") (by decide +kernel)
  have J32_57 : ∀ (n32 : Nat) (y32_0 : Int32) (f32_1 : Nat → Int32), True → rg 0 40 y32_0 → 40 < y32_0.toInt + (n32 : Int) → y_X5_empty F_h0_tuned = y_X5_empty_32 n32 y32_0 f32_1 → ∀ (H : Heap) (locs : List Loc) (ls : Array Slot), va_P D vwCl [(h0, .inr (5, [.int 0, .int 0, .int 0, .int 3, .int 1, .int 0, .ref h0_jurorName, .ref h0_floorName, .ref h0_caseName, .ref h0_pitch, .ref h0_length, .ref h0_hands, .ref h0_tune, .ref h0_dull, .ref h0_caseFloor, .ref h0_tuned])), (aI ca h0_tuned 40 f32_1)] H → va_D A [(h0, .inr (5, [.int 0, .int 0, .int 0, .int 3, .int 1, .int 0, .ref h0_jurorName, .ref h0_floorName, .ref h0_caseName, .ref h0_pitch, .ref h0_length, .ref h0_hands, .ref h0_tune, .ref h0_dull, .ref h0_caseFloor, .ref h0_tuned])), (aI ca h0_tuned 40 f32_1)] → va_S A s.heap H locs → lv_has ls 2 [(0, .ref h0), (1, .int y32_0)] → W p l e ({ frames := 0, cells := 0, slots := 0, locals := 0 } : Room) s m ([.ref h0] : List Value).toArray below meth c H locs 0 0 (MQ below ((oQv D (fun (u : (Nat → Int32)) => (u = y_X5_empty F_h0_tuned)) (fun (u : (Nat → Int32)) => [(h0, .inr (5, [.int 0, .int 0, .int 0, .int 3, .int 1, .int 0, .ref h0_jurorName, .ref h0_floorName, .ref h0_caseName, .ref h0_pitch, .ref h0_length, .ref h0_hands, .ref h0_tune, .ref h0_dull, .ref h0_caseFloor, .ref h0_tuned])), (aI ca h0_tuned 40 u)])) A) ([.ref h0] : List Value).toArray s 0 0 A) (F0 m 32 ls []) := by
    intro n32
    induction n32 with
    | zero => intro y32_0 f32_1 _ hy32_0 hn hY; exact absurd hn (by have q9 := hy32_0.2; omega)
    | succ n32 ih32 =>
      intro y32_0 f32_1 _ hy32_0 hn hY H locs ls hP hD hS hl
      have hY := hY.trans (y_X5_empty_32_s _ y32_0 f32_1)
      refine lv_iload_n hx hb dX5_empty_32 rfl (lv_at hl 1 rfl) ?_
      refine lv_aload_n hx hb dX5_empty_33 rfl (lv_at hl 0 rfl) ?_
      refine va_get (D := D) (ci := 5) (v := .ref h0_tuned) (C := RX5) (T := TX5) (N := 16) hx hb hts k2 hown hK.1 hP 0 rfl rfl 15 (by decide) k1 (fun _ h9 => h9) rfl dX5_empty_34 ?_
      refine va_alen hx hb hK.1 hP 1 0 rfl rfl (v := 40) rfl dX5_empty_37 ?_
      refine lv_icmp_ge (tgt := 54) hx hb dX5_empty_38 (by decide) (fun c_67 => ?_) (fun c_67 => ?_)
      · skip
        have hY := hY.trans (if_pos c_67)
        have o_68 : rl 0 40 y32_0 := rl_le c_67
        have h_69 : rg 40 40 y32_0 := rl_y o_68 (⟨by decide, by decide⟩ : rg 40 40 (40 : Int32)) hy32_0 (by decide) (by decide)
        exact oE_v hx hb hr hlocks hP hD hS f32_1 [0, 1] rfl (by decide) hY.symm (Nat.le_of_ble_eq_true rfl) (Nat.le_of_ble_eq_true rfl) dX5_empty_54
      · skip
        have hY := hY.trans (if_neg c_67)
        have o_70 : rl 1 y32_0 40 := rl_nle c_67
        have h_71 : rg 0 39 y32_0 := rl_x o_70 hy32_0 (⟨by decide, by decide⟩ : rg 40 40 (40 : Int32)) (by decide) (by decide)
        refine lv_aload_n hx hb dX5_empty_41 rfl (lv_at hl 0 rfl) ?_
        refine va_get (D := D) (ci := 5) (v := .ref h0_tuned) (C := RX5) (T := TX5) (N := 16) hx hb hts k2 hown hK.1 hP 0 rfl rfl 15 (by decide) k1 (fun _ h9 => h9) rfl dX5_empty_42 ?_
        refine lv_iload_n hx hb dX5_empty_45 rfl (lv_at hl 1 rfl) ?_
        refine lv_iconst (v := (-1)) hx hb dX5_empty_46 (by decide) ?_
        refine va_iast hx hb hK.1 hP hD hS 1 0 rfl rfl (rg_in h_71 (by decide) (by decide)) dX5_empty_47 (fun H locs hP hD hS => ?_)
        obtain ⟨g_72, eg_72⟩ : ∃ y : Nat → Int32, y = upd f32_1 (y32_0 : Int32).toNatClampNeg ((-1) : Int32) := ⟨_, rfl⟩
        rw [← eg_72] at hP hD
        have hY := hY.trans (lt1_e eg_72)
        have hP : va_P D vwCl [(h0, .inr (5, [.int 0, .int 0, .int 0, .int 3, .int 1, .int 0, .ref h0_jurorName, .ref h0_floorName, .ref h0_caseName, .ref h0_pitch, .ref h0_length, .ref h0_hands, .ref h0_tune, .ref h0_dull, .ref h0_caseFloor, .ref h0_tuned])), (aI ca h0_tuned 40 g_72)] H := hP
        have hD : va_D A [(h0, .inr (5, [.int 0, .int 0, .int 0, .int 3, .int 1, .int 0, .ref h0_jurorName, .ref h0_floorName, .ref h0_caseName, .ref h0_pitch, .ref h0_length, .ref h0_hands, .ref h0_tune, .ref h0_dull, .ref h0_caseFloor, .ref h0_tuned])), (aI ca h0_tuned 40 g_72)] := hD
        obtain ⟨x_73, ex_73⟩ : ∃ y : Int32, y = y32_0 + 1 := ⟨_, rfl⟩
        have hY := hY.trans (lt1_e ex_73)
        have h_74 : rg 1 40 x_73 := by rw [ex_73]; exact rg_add h_71 (⟨by decide, by decide⟩ : rg 1 1 (1 : Int32)) (by decide) (by decide) (by decide) (by decide)
        have l_75 : lq x_73.toInt (y32_0.toInt + 1) := lqm (by rw [ex_73]; have q := tadd h_71 (⟨by decide, by decide⟩ : rg 1 1 (1 : Int32)) (by decide) (by decide); have r1 := lqe (lqm (by decide) : lq (1 : Int32).toInt 1); omega)
        refine lv_iinc (v := x_73) (lv' := [(1, .int x_73), (0, .ref h0)]) hx hb dX5_empty_48 hl (k := 1) rfl (by rw [ex_73]; rfl) (by decide) rfl (fun ls hl => ?_)
        refine lv_goto (tgt := 32) hx hb dX5_empty_51 (by decide) ?_
        exact ih32 x_73 g_72 trivial (rgw (lo := 0) (hi := 40) h_74 (by decide) (by decide)) (by have q0 := lqe l_75; omega) hY H locs ls (oPsub hP [0, 1] rfl) (hD.sub [0, 1] (by decide) rfl) hS (lv_sub hl [1, 0] rfl)
  refine lv_aload_n hx hb dX5_empty_0 rfl (lv_at hl 0 rfl) ?_
  refine lv_iconst (v := 0) hx hb dX5_empty_1 (by decide) ?_
  refine va_put (D := D) (ci := 5) (v := .int 0) (ty := .int) (C := RX5) (T := TX5) (N := 16) hx hb hts k2 tyX5 tyX5_ok nmX5 hown hK.1 hP hD hS 0 rfl rfl 0 (by decide) k3 (fun _ h9 => h9) rfl (by decide +kernel) rfl rfl (Nat.le_of_ble_eq_true rfl) dX5_empty_2 (fun H locs hP hD hS => ?_)
  have hP : va_P D vwCl [(h0, .inr (5, [.int 0, .int h0_floors, .int h0_cases, .int h0_one, .int h0_dent, .int h0_seated, .ref h0_jurorName, .ref h0_floorName, .ref h0_caseName, .ref h0_pitch, .ref h0_length, .ref h0_hands, .ref h0_tune, .ref h0_dull, .ref h0_caseFloor, .ref h0_tuned])), (aI ca h0_tuned 40 F_h0_tuned)] H := hP
  have hD : va_D A [(h0, .inr (5, [.int 0, .int h0_floors, .int h0_cases, .int h0_one, .int h0_dent, .int h0_seated, .ref h0_jurorName, .ref h0_floorName, .ref h0_caseName, .ref h0_pitch, .ref h0_length, .ref h0_hands, .ref h0_tune, .ref h0_dull, .ref h0_caseFloor, .ref h0_tuned])), (aI ca h0_tuned 40 F_h0_tuned)] := hD
  refine lv_aload_n hx hb dX5_empty_5 rfl (lv_at hl 0 rfl) ?_
  refine lv_iconst (v := 0) hx hb dX5_empty_6 (by decide) ?_
  refine va_put (D := D) (ci := 5) (v := .int 0) (ty := .int) (C := RX5) (T := TX5) (N := 16) hx hb hts k2 tyX5 tyX5_ok nmX5 hown hK.1 hP hD hS 0 rfl rfl 1 (by decide) k4 (fun _ h9 => h9) rfl (by decide +kernel) rfl rfl (Nat.le_of_ble_eq_true rfl) dX5_empty_7 (fun H locs hP hD hS => ?_)
  have hP : va_P D vwCl [(h0, .inr (5, [.int 0, .int 0, .int h0_cases, .int h0_one, .int h0_dent, .int h0_seated, .ref h0_jurorName, .ref h0_floorName, .ref h0_caseName, .ref h0_pitch, .ref h0_length, .ref h0_hands, .ref h0_tune, .ref h0_dull, .ref h0_caseFloor, .ref h0_tuned])), (aI ca h0_tuned 40 F_h0_tuned)] H := hP
  have hD : va_D A [(h0, .inr (5, [.int 0, .int 0, .int h0_cases, .int h0_one, .int h0_dent, .int h0_seated, .ref h0_jurorName, .ref h0_floorName, .ref h0_caseName, .ref h0_pitch, .ref h0_length, .ref h0_hands, .ref h0_tune, .ref h0_dull, .ref h0_caseFloor, .ref h0_tuned])), (aI ca h0_tuned 40 F_h0_tuned)] := hD
  refine lv_aload_n hx hb dX5_empty_10 rfl (lv_at hl 0 rfl) ?_
  refine lv_iconst (v := 0) hx hb dX5_empty_11 (by decide) ?_
  refine va_put (D := D) (ci := 5) (v := .int 0) (ty := .int) (C := RX5) (T := TX5) (N := 16) hx hb hts k2 tyX5 tyX5_ok nmX5 hown hK.1 hP hD hS 0 rfl rfl 2 (by decide) k5 (fun _ h9 => h9) rfl (by decide +kernel) rfl rfl (Nat.le_of_ble_eq_true rfl) dX5_empty_12 (fun H locs hP hD hS => ?_)
  have hP : va_P D vwCl [(h0, .inr (5, [.int 0, .int 0, .int 0, .int h0_one, .int h0_dent, .int h0_seated, .ref h0_jurorName, .ref h0_floorName, .ref h0_caseName, .ref h0_pitch, .ref h0_length, .ref h0_hands, .ref h0_tune, .ref h0_dull, .ref h0_caseFloor, .ref h0_tuned])), (aI ca h0_tuned 40 F_h0_tuned)] H := hP
  have hD : va_D A [(h0, .inr (5, [.int 0, .int 0, .int 0, .int h0_one, .int h0_dent, .int h0_seated, .ref h0_jurorName, .ref h0_floorName, .ref h0_caseName, .ref h0_pitch, .ref h0_length, .ref h0_hands, .ref h0_tune, .ref h0_dull, .ref h0_caseFloor, .ref h0_tuned])), (aI ca h0_tuned 40 F_h0_tuned)] := hD
  refine lv_aload_n hx hb dX5_empty_15 rfl (lv_at hl 0 rfl) ?_
  refine lv_iconst (v := 3) hx hb dX5_empty_16 (by decide) ?_
  refine va_put (D := D) (ci := 5) (v := .int 3) (ty := .int) (C := RX5) (T := TX5) (N := 16) hx hb hts k2 tyX5 tyX5_ok nmX5 hown hK.1 hP hD hS 0 rfl rfl 3 (by decide) k6 (fun _ h9 => h9) rfl (by decide +kernel) rfl rfl (Nat.le_of_ble_eq_true rfl) dX5_empty_17 (fun H locs hP hD hS => ?_)
  have hP : va_P D vwCl [(h0, .inr (5, [.int 0, .int 0, .int 0, .int 3, .int h0_dent, .int h0_seated, .ref h0_jurorName, .ref h0_floorName, .ref h0_caseName, .ref h0_pitch, .ref h0_length, .ref h0_hands, .ref h0_tune, .ref h0_dull, .ref h0_caseFloor, .ref h0_tuned])), (aI ca h0_tuned 40 F_h0_tuned)] H := hP
  have hD : va_D A [(h0, .inr (5, [.int 0, .int 0, .int 0, .int 3, .int h0_dent, .int h0_seated, .ref h0_jurorName, .ref h0_floorName, .ref h0_caseName, .ref h0_pitch, .ref h0_length, .ref h0_hands, .ref h0_tune, .ref h0_dull, .ref h0_caseFloor, .ref h0_tuned])), (aI ca h0_tuned 40 F_h0_tuned)] := hD
  refine lv_aload_n hx hb dX5_empty_20 rfl (lv_at hl 0 rfl) ?_
  refine lv_iconst (v := 1) hx hb dX5_empty_21 (by decide) ?_
  refine va_put (D := D) (ci := 5) (v := .int 1) (ty := .int) (C := RX5) (T := TX5) (N := 16) hx hb hts k2 tyX5 tyX5_ok nmX5 hown hK.1 hP hD hS 0 rfl rfl 4 (by decide) k7 (fun _ h9 => h9) rfl (by decide +kernel) rfl rfl (Nat.le_of_ble_eq_true rfl) dX5_empty_22 (fun H locs hP hD hS => ?_)
  have hP : va_P D vwCl [(h0, .inr (5, [.int 0, .int 0, .int 0, .int 3, .int 1, .int h0_seated, .ref h0_jurorName, .ref h0_floorName, .ref h0_caseName, .ref h0_pitch, .ref h0_length, .ref h0_hands, .ref h0_tune, .ref h0_dull, .ref h0_caseFloor, .ref h0_tuned])), (aI ca h0_tuned 40 F_h0_tuned)] H := hP
  have hD : va_D A [(h0, .inr (5, [.int 0, .int 0, .int 0, .int 3, .int 1, .int h0_seated, .ref h0_jurorName, .ref h0_floorName, .ref h0_caseName, .ref h0_pitch, .ref h0_length, .ref h0_hands, .ref h0_tune, .ref h0_dull, .ref h0_caseFloor, .ref h0_tuned])), (aI ca h0_tuned 40 F_h0_tuned)] := hD
  refine lv_aload_n hx hb dX5_empty_25 rfl (lv_at hl 0 rfl) ?_
  refine lv_iconst (v := 0) hx hb dX5_empty_26 (by decide) ?_
  refine va_put (D := D) (ci := 5) (v := .int 0) (ty := .int) (C := RX5) (T := TX5) (N := 16) hx hb hts k2 tyX5 tyX5_ok nmX5 hown hK.1 hP hD hS 0 rfl rfl 5 (by decide) k8 (fun _ h9 => h9) rfl (by decide +kernel) rfl rfl (Nat.le_of_ble_eq_true rfl) dX5_empty_27 (fun H locs hP hD hS => ?_)
  have hP : va_P D vwCl [(h0, .inr (5, [.int 0, .int 0, .int 0, .int 3, .int 1, .int 0, .ref h0_jurorName, .ref h0_floorName, .ref h0_caseName, .ref h0_pitch, .ref h0_length, .ref h0_hands, .ref h0_tune, .ref h0_dull, .ref h0_caseFloor, .ref h0_tuned])), (aI ca h0_tuned 40 F_h0_tuned)] H := hP
  have hD : va_D A [(h0, .inr (5, [.int 0, .int 0, .int 0, .int 3, .int 1, .int 0, .ref h0_jurorName, .ref h0_floorName, .ref h0_caseName, .ref h0_pitch, .ref h0_length, .ref h0_hands, .ref h0_tune, .ref h0_dull, .ref h0_caseFloor, .ref h0_tuned])), (aI ca h0_tuned 40 F_h0_tuned)] := hD
  refine lv_iconst (v := 0) hx hb dX5_empty_30 (by decide) ?_
  refine lv_istore_n (lv' := [(1, .int 0), (0, .ref h0)]) hx hb dX5_empty_31 rfl hl (by decide) rfl (fun ls hl => ?_)
  exact J32_57 41 0 F_h0_tuned trivial (⟨by decide, by decide⟩ : rg 0 40 (0 : Int32)) (by have q0 := (⟨by decide, by decide⟩ : rg 0 0 (0 : Int32)).1; omega) hY H locs ls (oPsub hP [0, 1] rfl) (hD.sub [0, 1] (by decide) rfl) hS (lv_sub hl [1, 0] rfl)
theorem dX6_isBroken_0 : decode cX6_isBroken 0 = .ok (.aload_n 0, 1) := by decide +kernel
theorem dX6_isBroken_1 : decode cX6_isBroken 1 = .ok (.getfield 25, 3) := by decide +kernel
theorem dX6_isBroken_4 : decode cX6_isBroken 4 = .ok (.ifCond .eq 7, 3) := by decide +kernel
theorem dX6_isBroken_7 : decode cX6_isBroken 7 = .ok (.iconst 1, 1) := by decide +kernel
theorem dX6_isBroken_8 : decode cX6_isBroken 8 = .ok (.goto 4, 3) := by decide +kernel
theorem dX6_isBroken_11 : decode cX6_isBroken 11 = .ok (.iconst 0, 1) := by decide +kernel
theorem dX6_isBroken_12 : decode cX6_isBroken 12 = .ok (.ireturn, 1) := by decide +kernel
set_option maxHeartbeats 4000000 in
set_option maxRecDepth 100000 in
theorem e_X6_isBroken (l : Launch) (D : va_G) (ca : Nat → ClassId) (sz : Nat) (h0 : Nat) (h0_bytes : Nat) (h0_length : Int32) (h0_faultKind : Int32) (h0_faultAt : Int32) (h0_letters : Int64) (h0_mostBytes : Int32) (h0_behind : Int32) (h0_at : Int32) (h0_kind : Int32) (h0_number : Int32) (i_h0_length : rg 0 940 h0_length) (i_h0_faultKind : rg 0 4 h0_faultKind) (i_h0_behind : rg 0 940 h0_behind) : oMet l yX6_isBroken wsX6_isBroken ({ frames := 0, cells := 0, slots := 0, locals := 0 } : Room) [.ref h0] D ca sz [(h0, .inr (6, [.ref h0_bytes, .int h0_length, .int h0_faultKind, .int h0_faultAt, .long h0_letters, .int h0_mostBytes, .int h0_behind, .int h0_at, .int h0_kind, .int h0_number]))] (oQi D (fun (r : Int32) (u : Unit) => ((r = 0) ∧ (rg 0 0 h0_faultKind) ∧ (r = y_X6_isBroken h0_faultKind)) ∨ ((r = 1) ∧ (rg 1 4 h0_faultKind) ∧ (r = y_X6_isBroken h0_faultKind))) (fun (u : Unit) => [(h0, .inr (6, [.ref h0_bytes, .int h0_length, .int h0_faultKind, .int h0_faultAt, .long h0_letters, .int h0_mostBytes, .int h0_behind, .int h0_at, .int h0_kind, .int h0_number]))])) 0 0 := by
  refine oM (cc := cX6_isBroken) (maxL := 1) (ret := (some .boolean)) (by decide) rfl (Nat.le_of_ble_eq_true rfl) [(0, .ref h0)] rfl ?_
  intro p e s m below meth c A H locs ls hx hb hr hml hts hown hlocks hin hK hP hD hA hS hl
  have hown : s.vm.findClass RX6 = some m.cls := hown
  have hY := y_X6_isBroken_s h0_faultKind
  have k1 := hts (.fieldLink RX6 25 "LidCourt$Reader" "faultKind" "I") (by decide +kernel)
  have k2 : ∀ w ∈ wsX60, w ∈ wsX6_isBroken := fun _ h => List.mem_cons_of_mem _ (List.mem_append_right _ h)
  refine lv_aload_n hx hb dX6_isBroken_0 rfl (lv_at hl 0 rfl) ?_
  refine va_get (D := D) (ci := 6) (v := .int h0_faultKind) (C := RX6) (T := TX6) (N := 10) hx hb hts k2 hown hK.1 hP 0 rfl rfl 2 (by decide) k1 (fun _ h9 => h9) rfl dX6_isBroken_1 ?_
  refine lv_if_eq (tgt := 11) hx hb dX6_isBroken_4 (by decide) (fun c_6 => ?_) (fun c_6 => ?_)
  · skip
    have hY := hY.trans (if_pos c_6)
    have o_7 : rl 0 h0_faultKind 0 := rl_eq c_6
    have h_8 : rg 0 0 h0_faultKind := rl_x o_7 i_h0_faultKind (⟨by decide, by decide⟩ : rg 0 0 (0 : Int32)) (by decide) (by decide)
    have o_9 : rl 0 0 h0_faultKind := rl_eq c_6.symm
    refine lv_iconst (v := 0) hx hb dX6_isBroken_11 (by decide) ?_
    exact oE_i hx hb hr (by decide) hlocks hP hD hS () [0] rfl (by decide) (Or.inl ⟨rfl, h_8, hY.symm⟩) (Nat.le_of_ble_eq_true rfl) (Nat.le_of_ble_eq_true rfl) dX6_isBroken_12
  · skip
    have hY := hY.trans (if_neg c_6)
    have h_10 : rg 1 4 h0_faultKind := cl_nlo c_6 i_h0_faultKind (show (0 : Int32).toInt = 0 by decide) (by decide) (by decide)
    refine lv_iconst (v := 1) hx hb dX6_isBroken_7 (by decide) ?_
    refine lv_goto (tgt := 12) hx hb dX6_isBroken_8 (by decide) ?_
    exact oE_i hx hb hr (by decide) hlocks hP hD hS () [0] rfl (by decide) (Or.inr (⟨rfl, h_10, hY.symm⟩)) (Nat.le_of_ble_eq_true rfl) (Nat.le_of_ble_eq_true rfl) dX6_isBroken_12
theorem dX6_readRun_0 : decode cX6_readRun 0 = .ok (.iconst 0, 1) := by decide +kernel
theorem dX6_readRun_1 : decode cX6_readRun 1 = .ok (.istore_n 1, 1) := by decide +kernel
theorem dX6_readRun_2 : decode cX6_readRun 2 = .ok (.iconst 0, 1) := by decide +kernel
theorem dX6_readRun_3 : decode cX6_readRun 3 = .ok (.istore_n 2, 1) := by decide +kernel
theorem dX6_readRun_4 : decode cX6_readRun 4 = .ok (.aload_n 0, 1) := by decide +kernel
theorem dX6_readRun_5 : decode cX6_readRun 5 = .ok (.iconst 0, 1) := by decide +kernel
theorem dX6_readRun_6 : decode cX6_readRun 6 = .ok (.putfield 61, 3) := by decide +kernel
theorem dX6_readRun_9 : decode cX6_readRun 9 = .ok (.aload_n 0, 1) := by decide +kernel
theorem dX6_readRun_10 : decode cX6_readRun 10 = .ok (.getfield 22, 3) := by decide +kernel
theorem dX6_readRun_13 : decode cX6_readRun 13 = .ok (.aload_n 0, 1) := by decide +kernel
theorem dX6_readRun_14 : decode cX6_readRun 14 = .ok (.getfield 15, 3) := by decide +kernel
theorem dX6_readRun_17 : decode cX6_readRun 17 = .ok (.if_icmp .ge 95, 3) := by decide +kernel
theorem dX6_readRun_20 : decode cX6_readRun 20 = .ok (.aload_n 0, 1) := by decide +kernel
theorem dX6_readRun_21 : decode cX6_readRun 21 = .ok (.getfield 9, 3) := by decide +kernel
theorem dX6_readRun_24 : decode cX6_readRun 24 = .ok (.aload_n 0, 1) := by decide +kernel
theorem dX6_readRun_25 : decode cX6_readRun 25 = .ok (.getfield 22, 3) := by decide +kernel
theorem dX6_readRun_28 : decode cX6_readRun 28 = .ok (.iaload, 1) := by decide +kernel
theorem dX6_readRun_29 : decode cX6_readRun 29 = .ok (.istore_n 3, 1) := by decide +kernel
theorem dX6_readRun_30 : decode cX6_readRun 30 = .ok (.iload_n 3, 1) := by decide +kernel
theorem dX6_readRun_31 : decode cX6_readRun 31 = .ok (.bipush 97, 2) := by decide +kernel
theorem dX6_readRun_33 : decode cX6_readRun 33 = .ok (.if_icmp .lt 35, 3) := by decide +kernel
theorem dX6_readRun_36 : decode cX6_readRun 36 = .ok (.iload_n 3, 1) := by decide +kernel
theorem dX6_readRun_37 : decode cX6_readRun 37 = .ok (.bipush 122, 2) := by decide +kernel
theorem dX6_readRun_39 : decode cX6_readRun 39 = .ok (.if_icmp .gt 29, 3) := by decide +kernel
theorem dX6_readRun_42 : decode cX6_readRun 42 = .ok (.aload_n 0, 1) := by decide +kernel
theorem dX6_readRun_43 : decode cX6_readRun 43 = .ok (.aload_n 0, 1) := by decide +kernel
theorem dX6_readRun_44 : decode cX6_readRun 44 = .ok (.getfield 44, 3) := by decide +kernel
theorem dX6_readRun_47 : decode cX6_readRun 47 = .ok (.ldc2_w 64, 3) := by decide +kernel
theorem dX6_readRun_50 : decode cX6_readRun 50 = .ok (.lmul, 1) := by decide +kernel
theorem dX6_readRun_51 : decode cX6_readRun 51 = .ok (.iload_n 3, 1) := by decide +kernel
theorem dX6_readRun_52 : decode cX6_readRun 52 = .ok (.bipush 97, 2) := by decide +kernel
theorem dX6_readRun_54 : decode cX6_readRun 54 = .ok (.isub, 1) := by decide +kernel
theorem dX6_readRun_55 : decode cX6_readRun 55 = .ok (.iconst 1, 1) := by decide +kernel
theorem dX6_readRun_56 : decode cX6_readRun 56 = .ok (.iadd, 1) := by decide +kernel
theorem dX6_readRun_57 : decode cX6_readRun 57 = .ok (.i2l, 1) := by decide +kernel
theorem dX6_readRun_58 : decode cX6_readRun 58 = .ok (.ladd, 1) := by decide +kernel
theorem dX6_readRun_59 : decode cX6_readRun 59 = .ok (.putfield 44, 3) := by decide +kernel
theorem dX6_readRun_62 : decode cX6_readRun 62 = .ok (.iinc 1 1, 3) := by decide +kernel
theorem dX6_readRun_65 : decode cX6_readRun 65 = .ok (.goto 34, 3) := by decide +kernel
theorem dX6_readRun_68 : decode cX6_readRun 68 = .ok (.iload_n 3, 1) := by decide +kernel
theorem dX6_readRun_69 : decode cX6_readRun 69 = .ok (.bipush 48, 2) := by decide +kernel
theorem dX6_readRun_71 : decode cX6_readRun 71 = .ok (.if_icmp .lt 41, 3) := by decide +kernel
theorem dX6_readRun_74 : decode cX6_readRun 74 = .ok (.iload_n 3, 1) := by decide +kernel
theorem dX6_readRun_75 : decode cX6_readRun 75 = .ok (.bipush 57, 2) := by decide +kernel
theorem dX6_readRun_77 : decode cX6_readRun 77 = .ok (.if_icmp .gt 35, 3) := by decide +kernel
theorem dX6_readRun_80 : decode cX6_readRun 80 = .ok (.aload_n 0, 1) := by decide +kernel
theorem dX6_readRun_81 : decode cX6_readRun 81 = .ok (.aload_n 0, 1) := by decide +kernel
theorem dX6_readRun_82 : decode cX6_readRun 82 = .ok (.getfield 61, 3) := by decide +kernel
theorem dX6_readRun_85 : decode cX6_readRun 85 = .ok (.bipush 10, 2) := by decide +kernel
theorem dX6_readRun_87 : decode cX6_readRun 87 = .ok (.imul, 1) := by decide +kernel
theorem dX6_readRun_88 : decode cX6_readRun 88 = .ok (.iload_n 3, 1) := by decide +kernel
theorem dX6_readRun_89 : decode cX6_readRun 89 = .ok (.bipush 48, 2) := by decide +kernel
theorem dX6_readRun_91 : decode cX6_readRun 91 = .ok (.isub, 1) := by decide +kernel
theorem dX6_readRun_92 : decode cX6_readRun 92 = .ok (.iadd, 1) := by decide +kernel
theorem dX6_readRun_93 : decode cX6_readRun 93 = .ok (.putfield 61, 3) := by decide +kernel
theorem dX6_readRun_96 : decode cX6_readRun 96 = .ok (.iinc 2 1, 3) := by decide +kernel
theorem dX6_readRun_99 : decode cX6_readRun 99 = .ok (.aload_n 0, 1) := by decide +kernel
theorem dX6_readRun_100 : decode cX6_readRun 100 = .ok (.dup, 1) := by decide +kernel
theorem dX6_readRun_101 : decode cX6_readRun 101 = .ok (.getfield 22, 3) := by decide +kernel
theorem dX6_readRun_104 : decode cX6_readRun 104 = .ok (.iconst 1, 1) := by decide +kernel
theorem dX6_readRun_105 : decode cX6_readRun 105 = .ok (.iadd, 1) := by decide +kernel
theorem dX6_readRun_106 : decode cX6_readRun 106 = .ok (.putfield 22, 3) := by decide +kernel
theorem dX6_readRun_109 : decode cX6_readRun 109 = .ok (.goto (-100), 3) := by decide +kernel
theorem dX6_readRun_112 : decode cX6_readRun 112 = .ok (.iload_n 2, 1) := by decide +kernel
theorem dX6_readRun_113 : decode cX6_readRun 113 = .ok (.ifCond .ne 17, 3) := by decide +kernel
theorem dX6_readRun_116 : decode cX6_readRun 116 = .ok (.iload_n 1, 1) := by decide +kernel
theorem dX6_readRun_117 : decode cX6_readRun 117 = .ok (.bipush 7, 2) := by decide +kernel
theorem dX6_readRun_119 : decode cX6_readRun 119 = .ok (.if_icmp .gt 11, 3) := by decide +kernel
theorem dX6_readRun_122 : decode cX6_readRun 122 = .ok (.aload_n 0, 1) := by decide +kernel
theorem dX6_readRun_123 : decode cX6_readRun 123 = .ok (.iconst 2, 1) := by decide +kernel
theorem dX6_readRun_124 : decode cX6_readRun 124 = .ok (.putfield 51, 3) := by decide +kernel
theorem dX6_readRun_127 : decode cX6_readRun 127 = .ok (.goto 25, 3) := by decide +kernel
theorem dX6_readRun_130 : decode cX6_readRun 130 = .ok (.iload_n 1, 1) := by decide +kernel
theorem dX6_readRun_131 : decode cX6_readRun 131 = .ok (.ifCond .ne 16, 3) := by decide +kernel
theorem dX6_readRun_134 : decode cX6_readRun 134 = .ok (.iload_n 2, 1) := by decide +kernel
theorem dX6_readRun_135 : decode cX6_readRun 135 = .ok (.iconst 3, 1) := by decide +kernel
theorem dX6_readRun_136 : decode cX6_readRun 136 = .ok (.if_icmp .gt 11, 3) := by decide +kernel
theorem dX6_readRun_139 : decode cX6_readRun 139 = .ok (.aload_n 0, 1) := by decide +kernel
theorem dX6_readRun_140 : decode cX6_readRun 140 = .ok (.iconst 3, 1) := by decide +kernel
theorem dX6_readRun_141 : decode cX6_readRun 141 = .ok (.putfield 51, 3) := by decide +kernel
theorem dX6_readRun_144 : decode cX6_readRun 144 = .ok (.goto 8, 3) := by decide +kernel
theorem dX6_readRun_147 : decode cX6_readRun 147 = .ok (.aload_n 0, 1) := by decide +kernel
theorem dX6_readRun_148 : decode cX6_readRun 148 = .ok (.iconst 0, 1) := by decide +kernel
theorem dX6_readRun_149 : decode cX6_readRun 149 = .ok (.putfield 51, 3) := by decide +kernel
theorem dX6_readRun_152 : decode cX6_readRun 152 = .ok (.aload_n 0, 1) := by decide +kernel
theorem dX6_readRun_153 : decode cX6_readRun 153 = .ok (.getfield 51, 3) := by decide +kernel
theorem dX6_readRun_156 : decode cX6_readRun 156 = .ok (.iconst 2, 1) := by decide +kernel
theorem dX6_readRun_157 : decode cX6_readRun 157 = .ok (.if_icmp .eq 8, 3) := by decide +kernel
theorem dX6_readRun_160 : decode cX6_readRun 160 = .ok (.aload_n 0, 1) := by decide +kernel
theorem dX6_readRun_161 : decode cX6_readRun 161 = .ok (.lconst 0, 1) := by decide +kernel
theorem dX6_readRun_162 : decode cX6_readRun 162 = .ok (.putfield 44, 3) := by decide +kernel
theorem dX6_readRun_165 : decode cX6_readRun 165 = .ok (.return_, 1) := by decide +kernel
set_option maxHeartbeats 4000000 in
set_option maxRecDepth 100000 in
theorem e_X6_readRun (l : Launch) (D : va_G) (ca : Nat → ClassId) (sz : Nat) (h0 : Nat) (h0_bytes : Nat) (h0_length : Int32) (h0_faultKind : Int32) (h0_faultAt : Int32) (h0_letters : Int64) (h0_mostBytes : Int32) (h0_behind : Int32) (h0_at : Int32) (h0_kind : Int32) (h0_number : Int32) (F_h0_bytes : Nat → Int32) (i_h0_length : rg 0 940 h0_length) (i_h0_faultKind : rg 0 4 h0_faultKind) (i_h0_behind : rg 0 940 h0_behind) (s_h0_bytes_0 : sg 0 940 0 255 F_h0_bytes) : oMet l yX6_readRun wsX6_readRun ({ frames := 0, cells := 0, slots := 0, locals := 0 } : Room) [.ref h0] D ca sz [(h0, .inr (6, [.ref h0_bytes, .int h0_length, .int h0_faultKind, .int h0_faultAt, .long h0_letters, .int h0_mostBytes, .int h0_behind, .int h0_at, .int h0_kind, .int h0_number])), (aI ca h0_bytes 940 F_h0_bytes)] (oQv D (fun (u : Int64 × Int32 × Int32 × Int32) => (rg 0 940 u.2.1) ∧ (rg 0 3 u.2.2.1) ∧ (rl 0 h0_behind u.2.1) ∧ ((u.1, u.2.1, u.2.2.1, u.2.2.2) = y_X6_readRun h0_length h0_letters h0_behind F_h0_bytes)) (fun (u : Int64 × Int32 × Int32 × Int32) => [(h0, .inr (6, [.ref h0_bytes, .int h0_length, .int h0_faultKind, .int h0_faultAt, .long u.1, .int h0_mostBytes, .int u.2.1, .int h0_at, .int u.2.2.1, .int u.2.2.2])), (aI ca h0_bytes 940 F_h0_bytes)])) 0 0 := by
  refine oM (cc := cX6_readRun) (maxL := 4) (ret := none) (by decide) rfl (Nat.le_of_ble_eq_true rfl) [(0, .ref h0)] rfl ?_
  intro p e s m below meth c A H locs ls hx hb hr hml hts hown hlocks hin hK hP hD hA hS hl
  have hown : s.vm.findClass RX6 = some m.cls := hown
  have hY := y_X6_readRun_s h0_length h0_letters h0_behind F_h0_bytes
  have k1 := hts (.fieldLink RX6 51 "LidCourt$Reader" "kind" "I") (by decide +kernel)
  have k2 : ∀ w ∈ wsX60, w ∈ wsX6_readRun := fun _ h => List.mem_cons_of_mem _ (List.mem_append_right _ h)
  have k3 := hts (.fieldLink RX6 44 "LidCourt$Reader" "letters" "J") (by decide +kernel)
  have k4 := hts (.fieldLink RX6 22 "LidCourt$Reader" "behind" "I") (by decide +kernel)
  have k5 := hts (.fieldLink RX6 15 "LidCourt$Reader" "length" "I") (by decide +kernel)
  have k6 := hts (.fieldLink RX6 9 "LidCourt$Reader" "bytes" "[I") (by decide +kernel)
  have k7 := hts (.fieldLink RX6 61 "LidCourt$Reader" "number" "I") (by decide +kernel)
  have k8 := hts (.constantLong RX6 64 32) (by decide +kernel)
  have J152_1664 : ∀ (y152_0 : Int64) (y152_1 : Int32) (y152_2 : Int32) (y152_3 : Int32), rg 0 940 y152_1 → rl 0 h0_behind y152_1 → rg 0 3 y152_2 → y_X6_readRun h0_length h0_letters h0_behind F_h0_bytes = y_X6_readRun_152 y152_0 y152_1 y152_2 y152_3 → ∀ (H : Heap) (locs : List Loc) (ls : Array Slot), va_P D vwCl [(h0, .inr (6, [.ref h0_bytes, .int h0_length, .int h0_faultKind, .int h0_faultAt, .long y152_0, .int h0_mostBytes, .int y152_1, .int h0_at, .int y152_2, .int y152_3])), (aI ca h0_bytes 940 F_h0_bytes)] H → va_D A [(h0, .inr (6, [.ref h0_bytes, .int h0_length, .int h0_faultKind, .int h0_faultAt, .long y152_0, .int h0_mostBytes, .int y152_1, .int h0_at, .int y152_2, .int y152_3])), (aI ca h0_bytes 940 F_h0_bytes)] → va_S A s.heap H locs → lv_has ls 4 [(0, .ref h0)] → W p l e ({ frames := 0, cells := 0, slots := 0, locals := 0 } : Room) s m ([.ref h0] : List Value).toArray below meth c H locs 0 0 (MQ below ((oQv D (fun (u : Int64 × Int32 × Int32 × Int32) => (rg 0 940 u.2.1) ∧ (rg 0 3 u.2.2.1) ∧ (rl 0 h0_behind u.2.1) ∧ ((u.1, u.2.1, u.2.2.1, u.2.2.2) = y_X6_readRun h0_length h0_letters h0_behind F_h0_bytes)) (fun (u : Int64 × Int32 × Int32 × Int32) => [(h0, .inr (6, [.ref h0_bytes, .int h0_length, .int h0_faultKind, .int h0_faultAt, .long u.1, .int h0_mostBytes, .int u.2.1, .int h0_at, .int u.2.2.1, .int u.2.2.2])), (aI ca h0_bytes 940 F_h0_bytes)])) A) ([.ref h0] : List Value).toArray s 0 0 A) (F0 m 152 ls []) := by
    intro y152_0 y152_1 y152_2 y152_3 hy152_1 py152_1_h0_behind hy152_2 hY H locs ls hP hD hS hl
    have hY := hY.trans (y_X6_readRun_152_s y152_0 y152_1 y152_2 y152_3)
    refine lv_aload_n hx hb dX6_readRun_152 rfl (lv_at hl 0 rfl) ?_
    refine va_get (D := D) (ci := 6) (v := .int y152_2) (C := RX6) (T := TX6) (N := 10) hx hb hts k2 hown hK.1 hP 0 rfl rfl 8 (by decide) k1 (fun _ h9 => h9) rfl dX6_readRun_153 ?_
    refine lv_iconst (v := 2) hx hb dX6_readRun_156 (by decide) ?_
    refine lv_icmp_eq (tgt := 165) hx hb dX6_readRun_157 (by decide) (fun c_1665 => ?_) (fun c_1665 => ?_)
    · skip
      have hY := hY.trans (if_pos c_1665)
      have o_1666 : rl 0 y152_2 2 := rl_eq c_1665
      have h_1667 : rg 0 2 y152_2 := rl_x o_1666 hy152_2 (⟨by decide, by decide⟩ : rg 2 2 (2 : Int32)) (by decide) (by decide)
      have o_1668 : rl 0 2 y152_2 := rl_eq c_1665.symm
      have h_1669 : rg 2 2 y152_2 := rl_y o_1668 (⟨by decide, by decide⟩ : rg 2 2 (2 : Int32)) h_1667 (by decide) (by decide)
      exact oE_v hx hb hr hlocks hP hD hS (y152_0, y152_1, y152_2, y152_3) [0, 1] rfl (by decide) ⟨hy152_1, (rgw (lo := 0) (hi := 3) h_1669 (by decide) (by decide)), (show rl 0 h0_behind y152_1 from rlm (by have q0 := rle py152_1_h0_behind; omega)), hY.symm⟩ (Nat.le_of_ble_eq_true rfl) (Nat.le_of_ble_eq_true rfl) dX6_readRun_165
    · skip
      have hY := hY.trans (if_neg c_1665)
      refine lv_aload_n hx hb dX6_readRun_160 rfl (lv_at hl 0 rfl) ?_
      refine lv_lconst (v := 0) hx hb dX6_readRun_161 (by decide) ?_
      refine va_put (D := D) (ci := 6) (v := .long 0) (ty := .long) (C := RX6) (T := TX6) (N := 10) hx hb hts k2 tyX6 tyX6_ok nmX6 hown hK.1 hP hD hS 0 rfl rfl 4 (by decide) k3 (fun _ h9 => h9) rfl (by decide +kernel) rfl rfl (Nat.le_of_ble_eq_true rfl) dX6_readRun_162 (fun H locs hP hD hS => ?_)
      have hP : va_P D vwCl [(h0, .inr (6, [.ref h0_bytes, .int h0_length, .int h0_faultKind, .int h0_faultAt, .long 0, .int h0_mostBytes, .int y152_1, .int h0_at, .int y152_2, .int y152_3])), (aI ca h0_bytes 940 F_h0_bytes)] H := hP
      have hD : va_D A [(h0, .inr (6, [.ref h0_bytes, .int h0_length, .int h0_faultKind, .int h0_faultAt, .long 0, .int h0_mostBytes, .int y152_1, .int h0_at, .int y152_2, .int y152_3])), (aI ca h0_bytes 940 F_h0_bytes)] := hD
      exact oE_v hx hb hr hlocks hP hD hS (0, y152_1, y152_2, y152_3) [0, 1] rfl (by decide) ⟨hy152_1, hy152_2, (show rl 0 h0_behind y152_1 from rlm (by have q0 := rle py152_1_h0_behind; omega)), hY.symm⟩ (Nat.le_of_ble_eq_true rfl) (Nat.le_of_ble_eq_true rfl) dX6_readRun_165
  have J147_1670 : ∀ (y147_0 : Int64) (y147_1 : Int32) (y147_2 : Int32), rg 0 940 y147_1 → rl 0 h0_behind y147_1 → y_X6_readRun h0_length h0_letters h0_behind F_h0_bytes = y_X6_readRun_147 y147_0 y147_1 y147_2 → ∀ (H : Heap) (locs : List Loc) (ls : Array Slot), va_P D vwCl [(h0, .inr (6, [.ref h0_bytes, .int h0_length, .int h0_faultKind, .int h0_faultAt, .long y147_0, .int h0_mostBytes, .int y147_1, .int h0_at, .int h0_kind, .int y147_2])), (aI ca h0_bytes 940 F_h0_bytes)] H → va_D A [(h0, .inr (6, [.ref h0_bytes, .int h0_length, .int h0_faultKind, .int h0_faultAt, .long y147_0, .int h0_mostBytes, .int y147_1, .int h0_at, .int h0_kind, .int y147_2])), (aI ca h0_bytes 940 F_h0_bytes)] → va_S A s.heap H locs → lv_has ls 4 [(0, .ref h0)] → W p l e ({ frames := 0, cells := 0, slots := 0, locals := 0 } : Room) s m ([.ref h0] : List Value).toArray below meth c H locs 0 0 (MQ below ((oQv D (fun (u : Int64 × Int32 × Int32 × Int32) => (rg 0 940 u.2.1) ∧ (rg 0 3 u.2.2.1) ∧ (rl 0 h0_behind u.2.1) ∧ ((u.1, u.2.1, u.2.2.1, u.2.2.2) = y_X6_readRun h0_length h0_letters h0_behind F_h0_bytes)) (fun (u : Int64 × Int32 × Int32 × Int32) => [(h0, .inr (6, [.ref h0_bytes, .int h0_length, .int h0_faultKind, .int h0_faultAt, .long u.1, .int h0_mostBytes, .int u.2.1, .int h0_at, .int u.2.2.1, .int u.2.2.2])), (aI ca h0_bytes 940 F_h0_bytes)])) A) ([.ref h0] : List Value).toArray s 0 0 A) (F0 m 147 ls []) := by
    intro y147_0 y147_1 y147_2 hy147_1 py147_1_h0_behind hY H locs ls hP hD hS hl
    have hY := hY.trans (y_X6_readRun_147_s y147_0 y147_1 y147_2)
    refine lv_aload_n hx hb dX6_readRun_147 rfl (lv_at hl 0 rfl) ?_
    refine lv_iconst (v := 0) hx hb dX6_readRun_148 (by decide) ?_
    refine va_put (D := D) (ci := 6) (v := .int 0) (ty := .int) (C := RX6) (T := TX6) (N := 10) hx hb hts k2 tyX6 tyX6_ok nmX6 hown hK.1 hP hD hS 0 rfl rfl 8 (by decide) k1 (fun _ h9 => h9) rfl (by decide +kernel) rfl rfl (Nat.le_of_ble_eq_true rfl) dX6_readRun_149 (fun H locs hP hD hS => ?_)
    have hP : va_P D vwCl [(h0, .inr (6, [.ref h0_bytes, .int h0_length, .int h0_faultKind, .int h0_faultAt, .long y147_0, .int h0_mostBytes, .int y147_1, .int h0_at, .int 0, .int y147_2])), (aI ca h0_bytes 940 F_h0_bytes)] H := hP
    have hD : va_D A [(h0, .inr (6, [.ref h0_bytes, .int h0_length, .int h0_faultKind, .int h0_faultAt, .long y147_0, .int h0_mostBytes, .int y147_1, .int h0_at, .int 0, .int y147_2])), (aI ca h0_bytes 940 F_h0_bytes)] := hD
    exact J152_1664 y147_0 y147_1 0 y147_2 hy147_1 (rlm (by have q0 := rle py147_1_h0_behind; omega)) (⟨by decide, by decide⟩ : rg 0 3 (0 : Int32)) hY H locs ls (oPsub hP [0, 1] rfl) (hD.sub [0, 1] (by decide) rfl) hS (lv_sub hl [0] rfl)
  have J130_1671 : ∀ (y130_0 : Int32) (y130_1 : Int32) (y130_2 : Int64) (y130_3 : Int32) (y130_4 : Int32), rg 0 940 y130_3 → rl 0 h0_behind y130_3 → y_X6_readRun h0_length h0_letters h0_behind F_h0_bytes = y_X6_readRun_130 y130_0 y130_1 y130_2 y130_3 y130_4 → ∀ (H : Heap) (locs : List Loc) (ls : Array Slot), va_P D vwCl [(h0, .inr (6, [.ref h0_bytes, .int h0_length, .int h0_faultKind, .int h0_faultAt, .long y130_2, .int h0_mostBytes, .int y130_3, .int h0_at, .int h0_kind, .int y130_4])), (aI ca h0_bytes 940 F_h0_bytes)] H → va_D A [(h0, .inr (6, [.ref h0_bytes, .int h0_length, .int h0_faultKind, .int h0_faultAt, .long y130_2, .int h0_mostBytes, .int y130_3, .int h0_at, .int h0_kind, .int y130_4])), (aI ca h0_bytes 940 F_h0_bytes)] → va_S A s.heap H locs → lv_has ls 4 [(0, .ref h0), (1, .int y130_0), (2, .int y130_1)] → W p l e ({ frames := 0, cells := 0, slots := 0, locals := 0 } : Room) s m ([.ref h0] : List Value).toArray below meth c H locs 0 0 (MQ below ((oQv D (fun (u : Int64 × Int32 × Int32 × Int32) => (rg 0 940 u.2.1) ∧ (rg 0 3 u.2.2.1) ∧ (rl 0 h0_behind u.2.1) ∧ ((u.1, u.2.1, u.2.2.1, u.2.2.2) = y_X6_readRun h0_length h0_letters h0_behind F_h0_bytes)) (fun (u : Int64 × Int32 × Int32 × Int32) => [(h0, .inr (6, [.ref h0_bytes, .int h0_length, .int h0_faultKind, .int h0_faultAt, .long u.1, .int h0_mostBytes, .int u.2.1, .int h0_at, .int u.2.2.1, .int u.2.2.2])), (aI ca h0_bytes 940 F_h0_bytes)])) A) ([.ref h0] : List Value).toArray s 0 0 A) (F0 m 130 ls []) := by
    intro y130_0 y130_1 y130_2 y130_3 y130_4 hy130_3 py130_3_h0_behind hY H locs ls hP hD hS hl
    have hY := hY.trans (y_X6_readRun_130_s y130_0 y130_1 y130_2 y130_3 y130_4)
    refine lv_iload_n hx hb dX6_readRun_130 rfl (lv_at hl 1 rfl) ?_
    refine lv_if_ne (tgt := 147) hx hb dX6_readRun_131 (by decide) (fun c_1672 => ?_) (fun c_1672 => ?_)
    · skip
      have hY := hY.trans (if_neg c_1672)
      exact J147_1670 y130_2 y130_3 y130_4 hy130_3 (rlm (by have q0 := rle py130_3_h0_behind; omega)) hY H locs ls (oPsub hP [0, 1] rfl) (hD.sub [0, 1] (by decide) rfl) hS (lv_sub hl [0] rfl)
    · skip
      have hY := hY.trans (if_pos c_1672)
      have o_1673 : rl 0 y130_0 0 := rl_eq c_1672
      have h_1674 : rg (-2147483648) 0 y130_0 := rl_x o_1673 (rga y130_0) (⟨by decide, by decide⟩ : rg 0 0 (0 : Int32)) (by decide) (by decide)
      have o_1675 : rl 0 0 y130_0 := rl_eq c_1672.symm
      have h_1676 : rg 0 0 y130_0 := rl_y o_1675 (⟨by decide, by decide⟩ : rg 0 0 (0 : Int32)) h_1674 (by decide) (by decide)
      refine lv_iload_n hx hb dX6_readRun_134 rfl (lv_at hl 2 rfl) ?_
      refine lv_iconst (v := 3) hx hb dX6_readRun_135 (by decide) ?_
      refine lv_icmp_gt (tgt := 147) hx hb dX6_readRun_136 (by decide) (fun c_1677 => ?_) (fun c_1677 => ?_)
      · skip
        have hY := hY.trans (if_pos c_1677)
        have o_1678 : rl 1 3 y130_1 := rl_lt c_1677
        have h_1679 : rg 4 2147483647 y130_1 := rl_y o_1678 (⟨by decide, by decide⟩ : rg 3 3 (3 : Int32)) (rga y130_1) (by decide) (by decide)
        exact J147_1670 y130_2 y130_3 y130_4 hy130_3 (rlm (by have q0 := rle py130_3_h0_behind; omega)) hY H locs ls (oPsub hP [0, 1] rfl) (hD.sub [0, 1] (by decide) rfl) hS (lv_sub hl [0] rfl)
      · skip
        have hY := hY.trans (if_neg c_1677)
        have o_1680 : rl 0 y130_1 3 := rl_nlt c_1677
        have h_1681 : rg (-2147483648) 3 y130_1 := rl_x o_1680 (rga y130_1) (⟨by decide, by decide⟩ : rg 3 3 (3 : Int32)) (by decide) (by decide)
        refine lv_aload_n hx hb dX6_readRun_139 rfl (lv_at hl 0 rfl) ?_
        refine lv_iconst (v := 3) hx hb dX6_readRun_140 (by decide) ?_
        refine va_put (D := D) (ci := 6) (v := .int 3) (ty := .int) (C := RX6) (T := TX6) (N := 10) hx hb hts k2 tyX6 tyX6_ok nmX6 hown hK.1 hP hD hS 0 rfl rfl 8 (by decide) k1 (fun _ h9 => h9) rfl (by decide +kernel) rfl rfl (Nat.le_of_ble_eq_true rfl) dX6_readRun_141 (fun H locs hP hD hS => ?_)
        have hP : va_P D vwCl [(h0, .inr (6, [.ref h0_bytes, .int h0_length, .int h0_faultKind, .int h0_faultAt, .long y130_2, .int h0_mostBytes, .int y130_3, .int h0_at, .int 3, .int y130_4])), (aI ca h0_bytes 940 F_h0_bytes)] H := hP
        have hD : va_D A [(h0, .inr (6, [.ref h0_bytes, .int h0_length, .int h0_faultKind, .int h0_faultAt, .long y130_2, .int h0_mostBytes, .int y130_3, .int h0_at, .int 3, .int y130_4])), (aI ca h0_bytes 940 F_h0_bytes)] := hD
        refine lv_goto (tgt := 152) hx hb dX6_readRun_144 (by decide) ?_
        exact J152_1664 y130_2 y130_3 3 y130_4 hy130_3 (rlm (by have q0 := rle py130_3_h0_behind; omega)) (⟨by decide, by decide⟩ : rg 0 3 (3 : Int32)) hY H locs ls (oPsub hP [0, 1] rfl) (hD.sub [0, 1] (by decide) rfl) hS (lv_sub hl [0] rfl)
  have J112_1682 : ∀ (y112_0 : Int32) (y112_1 : Int32) (y112_2 : Int64) (y112_3 : Int32) (y112_4 : Int32), rg 0 940 y112_3 → rl 0 h0_behind y112_3 → y_X6_readRun h0_length h0_letters h0_behind F_h0_bytes = y_X6_readRun_112 y112_0 y112_1 y112_2 y112_3 y112_4 → ∀ (H : Heap) (locs : List Loc) (ls : Array Slot), va_P D vwCl [(h0, .inr (6, [.ref h0_bytes, .int h0_length, .int h0_faultKind, .int h0_faultAt, .long y112_2, .int h0_mostBytes, .int y112_3, .int h0_at, .int h0_kind, .int y112_4])), (aI ca h0_bytes 940 F_h0_bytes)] H → va_D A [(h0, .inr (6, [.ref h0_bytes, .int h0_length, .int h0_faultKind, .int h0_faultAt, .long y112_2, .int h0_mostBytes, .int y112_3, .int h0_at, .int h0_kind, .int y112_4])), (aI ca h0_bytes 940 F_h0_bytes)] → va_S A s.heap H locs → lv_has ls 4 [(0, .ref h0), (1, .int y112_0), (2, .int y112_1)] → W p l e ({ frames := 0, cells := 0, slots := 0, locals := 0 } : Room) s m ([.ref h0] : List Value).toArray below meth c H locs 0 0 (MQ below ((oQv D (fun (u : Int64 × Int32 × Int32 × Int32) => (rg 0 940 u.2.1) ∧ (rg 0 3 u.2.2.1) ∧ (rl 0 h0_behind u.2.1) ∧ ((u.1, u.2.1, u.2.2.1, u.2.2.2) = y_X6_readRun h0_length h0_letters h0_behind F_h0_bytes)) (fun (u : Int64 × Int32 × Int32 × Int32) => [(h0, .inr (6, [.ref h0_bytes, .int h0_length, .int h0_faultKind, .int h0_faultAt, .long u.1, .int h0_mostBytes, .int u.2.1, .int h0_at, .int u.2.2.1, .int u.2.2.2])), (aI ca h0_bytes 940 F_h0_bytes)])) A) ([.ref h0] : List Value).toArray s 0 0 A) (F0 m 112 ls []) := by
    intro y112_0 y112_1 y112_2 y112_3 y112_4 hy112_3 py112_3_h0_behind hY H locs ls hP hD hS hl
    have hY := hY.trans (y_X6_readRun_112_s y112_0 y112_1 y112_2 y112_3 y112_4)
    refine lv_iload_n hx hb dX6_readRun_112 rfl (lv_at hl 2 rfl) ?_
    refine lv_if_ne (tgt := 130) hx hb dX6_readRun_113 (by decide) (fun c_1683 => ?_) (fun c_1683 => ?_)
    · skip
      have hY := hY.trans (if_neg c_1683)
      exact J130_1671 y112_0 y112_1 y112_2 y112_3 y112_4 hy112_3 (rlm (by have q0 := rle py112_3_h0_behind; omega)) hY H locs ls (oPsub hP [0, 1] rfl) (hD.sub [0, 1] (by decide) rfl) hS (lv_sub hl [0, 1, 2] rfl)
    · skip
      have hY := hY.trans (if_pos c_1683)
      have o_1684 : rl 0 y112_1 0 := rl_eq c_1683
      have h_1685 : rg (-2147483648) 0 y112_1 := rl_x o_1684 (rga y112_1) (⟨by decide, by decide⟩ : rg 0 0 (0 : Int32)) (by decide) (by decide)
      have o_1686 : rl 0 0 y112_1 := rl_eq c_1683.symm
      have h_1687 : rg 0 0 y112_1 := rl_y o_1686 (⟨by decide, by decide⟩ : rg 0 0 (0 : Int32)) h_1685 (by decide) (by decide)
      refine lv_iload_n hx hb dX6_readRun_116 rfl (lv_at hl 1 rfl) ?_
      refine lv_bipush (v := 7) hx hb dX6_readRun_117 (by decide) ?_
      refine lv_icmp_gt (tgt := 130) hx hb dX6_readRun_119 (by decide) (fun c_1688 => ?_) (fun c_1688 => ?_)
      · skip
        have hY := hY.trans (if_pos c_1688)
        have o_1689 : rl 1 7 y112_0 := rl_lt c_1688
        have h_1690 : rg 8 2147483647 y112_0 := rl_y o_1689 (⟨by decide, by decide⟩ : rg 7 7 (7 : Int32)) (rga y112_0) (by decide) (by decide)
        exact J130_1671 y112_0 y112_1 y112_2 y112_3 y112_4 hy112_3 (rlm (by have q0 := rle py112_3_h0_behind; omega)) hY H locs ls (oPsub hP [0, 1] rfl) (hD.sub [0, 1] (by decide) rfl) hS (lv_sub hl [0, 1, 2] rfl)
      · skip
        have hY := hY.trans (if_neg c_1688)
        have o_1691 : rl 0 y112_0 7 := rl_nlt c_1688
        have h_1692 : rg (-2147483648) 7 y112_0 := rl_x o_1691 (rga y112_0) (⟨by decide, by decide⟩ : rg 7 7 (7 : Int32)) (by decide) (by decide)
        refine lv_aload_n hx hb dX6_readRun_122 rfl (lv_at hl 0 rfl) ?_
        refine lv_iconst (v := 2) hx hb dX6_readRun_123 (by decide) ?_
        refine va_put (D := D) (ci := 6) (v := .int 2) (ty := .int) (C := RX6) (T := TX6) (N := 10) hx hb hts k2 tyX6 tyX6_ok nmX6 hown hK.1 hP hD hS 0 rfl rfl 8 (by decide) k1 (fun _ h9 => h9) rfl (by decide +kernel) rfl rfl (Nat.le_of_ble_eq_true rfl) dX6_readRun_124 (fun H locs hP hD hS => ?_)
        have hP : va_P D vwCl [(h0, .inr (6, [.ref h0_bytes, .int h0_length, .int h0_faultKind, .int h0_faultAt, .long y112_2, .int h0_mostBytes, .int y112_3, .int h0_at, .int 2, .int y112_4])), (aI ca h0_bytes 940 F_h0_bytes)] H := hP
        have hD : va_D A [(h0, .inr (6, [.ref h0_bytes, .int h0_length, .int h0_faultKind, .int h0_faultAt, .long y112_2, .int h0_mostBytes, .int y112_3, .int h0_at, .int 2, .int y112_4])), (aI ca h0_bytes 940 F_h0_bytes)] := hD
        refine lv_goto (tgt := 152) hx hb dX6_readRun_127 (by decide) ?_
        exact J152_1664 y112_2 y112_3 2 y112_4 hy112_3 (rlm (by have q0 := rle py112_3_h0_behind; omega)) (⟨by decide, by decide⟩ : rg 0 3 (2 : Int32)) hY H locs ls (oPsub hP [0, 1] rfl) (hD.sub [0, 1] (by decide) rfl) hS (lv_sub hl [0] rfl)
  have J9_1693 : ∀ (n9 : Nat) (y9_0 : Int32) (y9_1 : Int32) (y9_2 : Int64) (y9_3 : Int32) (y9_4 : Int32), True → rg 0 940 y9_3 → rl 0 h0_behind y9_3 → 940 < y9_3.toInt + (n9 : Int) → y_X6_readRun h0_length h0_letters h0_behind F_h0_bytes = y_X6_readRun_9 h0_length F_h0_bytes n9 y9_0 y9_1 y9_2 y9_3 y9_4 → ∀ (H : Heap) (locs : List Loc) (ls : Array Slot), va_P D vwCl [(h0, .inr (6, [.ref h0_bytes, .int h0_length, .int h0_faultKind, .int h0_faultAt, .long y9_2, .int h0_mostBytes, .int y9_3, .int h0_at, .int h0_kind, .int y9_4])), (aI ca h0_bytes 940 F_h0_bytes)] H → va_D A [(h0, .inr (6, [.ref h0_bytes, .int h0_length, .int h0_faultKind, .int h0_faultAt, .long y9_2, .int h0_mostBytes, .int y9_3, .int h0_at, .int h0_kind, .int y9_4])), (aI ca h0_bytes 940 F_h0_bytes)] → va_S A s.heap H locs → lv_has ls 4 [(0, .ref h0), (1, .int y9_0), (2, .int y9_1)] → W p l e ({ frames := 0, cells := 0, slots := 0, locals := 0 } : Room) s m ([.ref h0] : List Value).toArray below meth c H locs 0 0 (MQ below ((oQv D (fun (u : Int64 × Int32 × Int32 × Int32) => (rg 0 940 u.2.1) ∧ (rg 0 3 u.2.2.1) ∧ (rl 0 h0_behind u.2.1) ∧ ((u.1, u.2.1, u.2.2.1, u.2.2.2) = y_X6_readRun h0_length h0_letters h0_behind F_h0_bytes)) (fun (u : Int64 × Int32 × Int32 × Int32) => [(h0, .inr (6, [.ref h0_bytes, .int h0_length, .int h0_faultKind, .int h0_faultAt, .long u.1, .int h0_mostBytes, .int u.2.1, .int h0_at, .int u.2.2.1, .int u.2.2.2])), (aI ca h0_bytes 940 F_h0_bytes)])) A) ([.ref h0] : List Value).toArray s 0 0 A) (F0 m 9 ls []) := by
    intro n9
    induction n9 with
    | zero => intro y9_0 y9_1 y9_2 y9_3 y9_4 _ hy9_3 py9_3_h0_behind hn hY; exact absurd hn (by have q9 := hy9_3.2; omega)
    | succ n9 ih9 =>
      intro y9_0 y9_1 y9_2 y9_3 y9_4 _ hy9_3 py9_3_h0_behind hn hY H locs ls hP hD hS hl
      have hY := hY.trans (y_X6_readRun_9_s h0_length F_h0_bytes _ y9_0 y9_1 y9_2 y9_3 y9_4)
      refine lv_aload_n hx hb dX6_readRun_9 rfl (lv_at hl 0 rfl) ?_
      refine va_get (D := D) (ci := 6) (v := .int y9_3) (C := RX6) (T := TX6) (N := 10) hx hb hts k2 hown hK.1 hP 0 rfl rfl 6 (by decide) k4 (fun _ h9 => h9) rfl dX6_readRun_10 ?_
      refine lv_aload_n hx hb dX6_readRun_13 rfl (lv_at hl 0 rfl) ?_
      refine va_get (D := D) (ci := 6) (v := .int h0_length) (C := RX6) (T := TX6) (N := 10) hx hb hts k2 hown hK.1 hP 0 rfl rfl 1 (by decide) k5 (fun _ h9 => h9) rfl dX6_readRun_14 ?_
      refine lv_icmp_ge (tgt := 112) hx hb dX6_readRun_17 (by decide) (fun c_1743 => ?_) (fun c_1743 => ?_)
      · skip
        have hY := hY.trans (if_pos c_1743)
        have o_1744 : rl 0 h0_length y9_3 := rl_le c_1743
        exact J112_1682 y9_0 y9_1 y9_2 y9_3 y9_4 hy9_3 (rlm (by have q0 := rle py9_3_h0_behind; omega)) hY H locs ls (oPsub hP [0, 1] rfl) (hD.sub [0, 1] (by decide) rfl) hS (lv_sub hl [0, 1, 2] rfl)
      · skip
        have hY := hY.trans (if_neg c_1743)
        have o_1745 : rl 1 y9_3 h0_length := rl_nle c_1743
        have h_1746 : rg 0 939 y9_3 := rl_x o_1745 hy9_3 i_h0_length (by decide) (by decide)
        have h_1747 : rg 1 940 h0_length := rl_y o_1745 hy9_3 i_h0_length (by decide) (by decide)
        refine lv_aload_n hx hb dX6_readRun_20 rfl (lv_at hl 0 rfl) ?_
        refine va_get (D := D) (ci := 6) (v := .ref h0_bytes) (C := RX6) (T := TX6) (N := 10) hx hb hts k2 hown hK.1 hP 0 rfl rfl 0 (by decide) k6 (fun _ h9 => h9) rfl dX6_readRun_21 ?_
        refine lv_aload_n hx hb dX6_readRun_24 rfl (lv_at hl 0 rfl) ?_
        refine va_get (D := D) (ci := 6) (v := .int y9_3) (C := RX6) (T := TX6) (N := 10) hx hb hts k2 hown hK.1 hP 0 rfl rfl 6 (by decide) k4 (fun _ h9 => h9) rfl dX6_readRun_25 ?_
        refine va_iald hx hb hK.1 hP 1 0 rfl rfl (rg_in h_1746 (by decide) (by decide)) dX6_readRun_28 ?_
        refine lv_topi (fun x_1748 ex_1748 => ?_)
        have hY := hY.trans (lt1_e ex_1748)
        have h_1749 : rg 0 255 x_1748 := by rw [ex_1748]; exact sg_at (sg_w (a' := 0) (b' := 940) (lo' := 0) (hi' := 255) s_h0_bytes_0 (by decide) (by decide) (by decide) (by decide)) h_1746 (by decide) (by decide) (by decide)
        refine lv_istore_n (lv' := [(3, .int x_1748), (0, .ref h0), (1, .int y9_0), (2, .int y9_1)]) hx hb dX6_readRun_29 rfl hl (by decide) rfl (fun ls hl => ?_)
        refine lv_iload_n hx hb dX6_readRun_30 rfl (lv_at hl 0 rfl) ?_
        refine lv_bipush (v := 97) hx hb dX6_readRun_31 (by decide) ?_
        refine lv_icmp_lt (tgt := 68) hx hb dX6_readRun_33 (by decide) (fun c_1750 => ?_) (fun c_1750 => ?_)
        · skip
          have hY := hY.trans (if_pos c_1750)
          have o_1751 : rl 1 x_1748 97 := rl_lt c_1750
          have h_1752 : rg 0 96 x_1748 := rl_x o_1751 h_1749 (⟨by decide, by decide⟩ : rg 97 97 (97 : Int32)) (by decide) (by decide)
          refine lv_iload_n hx hb dX6_readRun_68 rfl (lv_at hl 0 rfl) ?_
          refine lv_bipush (v := 48) hx hb dX6_readRun_69 (by decide) ?_
          refine lv_icmp_lt (tgt := 112) hx hb dX6_readRun_71 (by decide) (fun c_1753 => ?_) (fun c_1753 => ?_)
          · skip
            have hY := hY.trans (if_pos c_1753)
            have o_1754 : rl 1 x_1748 48 := rl_lt c_1753
            have h_1755 : rg 0 47 x_1748 := rl_x o_1754 h_1752 (⟨by decide, by decide⟩ : rg 48 48 (48 : Int32)) (by decide) (by decide)
            exact J112_1682 y9_0 y9_1 y9_2 y9_3 y9_4 (rgw (lo := 0) (hi := 940) h_1746 (by decide) (by decide)) (rlm (by have q0 := rle py9_3_h0_behind; omega)) hY H locs ls (oPsub hP [0, 1] rfl) (hD.sub [0, 1] (by decide) rfl) hS (lv_sub hl [1, 2, 3] rfl)
          · skip
            have hY := hY.trans (if_neg c_1753)
            have o_1756 : rl 0 48 x_1748 := rl_nlt c_1753
            have h_1757 : rg 48 96 x_1748 := rl_y o_1756 (⟨by decide, by decide⟩ : rg 48 48 (48 : Int32)) h_1752 (by decide) (by decide)
            refine lv_iload_n hx hb dX6_readRun_74 rfl (lv_at hl 0 rfl) ?_
            refine lv_bipush (v := 57) hx hb dX6_readRun_75 (by decide) ?_
            refine lv_icmp_gt (tgt := 112) hx hb dX6_readRun_77 (by decide) (fun c_1758 => ?_) (fun c_1758 => ?_)
            · skip
              have hY := hY.trans (if_pos c_1758)
              have o_1759 : rl 1 57 x_1748 := rl_lt c_1758
              have h_1760 : rg 58 96 x_1748 := rl_y o_1759 (⟨by decide, by decide⟩ : rg 57 57 (57 : Int32)) h_1757 (by decide) (by decide)
              exact J112_1682 y9_0 y9_1 y9_2 y9_3 y9_4 (rgw (lo := 0) (hi := 940) h_1746 (by decide) (by decide)) (rlm (by have q0 := rle py9_3_h0_behind; omega)) hY H locs ls (oPsub hP [0, 1] rfl) (hD.sub [0, 1] (by decide) rfl) hS (lv_sub hl [1, 2, 3] rfl)
            · skip
              have hY := hY.trans (if_neg c_1758)
              have o_1761 : rl 0 x_1748 57 := rl_nlt c_1758
              have h_1762 : rg 48 57 x_1748 := rl_x o_1761 h_1757 (⟨by decide, by decide⟩ : rg 57 57 (57 : Int32)) (by decide) (by decide)
              refine lv_aload_n hx hb dX6_readRun_80 rfl (lv_at hl 1 rfl) ?_
              refine lv_aload_n hx hb dX6_readRun_81 rfl (lv_at hl 1 rfl) ?_
              refine va_get (D := D) (ci := 6) (v := .int y9_4) (C := RX6) (T := TX6) (N := 10) hx hb hts k2 hown hK.1 hP 0 rfl rfl 9 (by decide) k7 (fun _ h9 => h9) rfl dX6_readRun_82 ?_
              refine lv_bipush (v := 10) hx hb dX6_readRun_85 (by decide) ?_
              refine lv_imul hx hb dX6_readRun_87 ?_
              refine lv_topi (fun x_1763 ex_1763 => ?_)
              have hY := hY.trans (lt1_e ex_1763)
              refine lv_iload_n hx hb dX6_readRun_88 rfl (lv_at hl 0 rfl) ?_
              refine lv_bipush (v := 48) hx hb dX6_readRun_89 (by decide) ?_
              refine lv_isub hx hb dX6_readRun_91 ?_
              refine lv_topi (fun x_1764 ex_1764 => ?_)
              have hY := hY.trans (lt1_e ex_1764)
              have h_1765 : rg 0 9 x_1764 := by rw [ex_1764]; exact rg_sub h_1762 (⟨by decide, by decide⟩ : rg 48 48 (48 : Int32)) (by decide) (by decide) (by decide) (by decide)
              have l_1766 : lq x_1764.toInt (x_1748.toInt + (-48)) := lqm (by rw [ex_1764]; have q := tsub h_1762 (⟨by decide, by decide⟩ : rg 48 48 (48 : Int32)) (by decide) (by decide); have r1 := lqe (lqm (by decide) : lq (48 : Int32).toInt 48); omega)
              refine lv_iadd hx hb dX6_readRun_92 ?_
              refine lv_topi (fun x_1767 ex_1767 => ?_)
              have hY := hY.trans (lt1_e ex_1767)
              refine va_put (D := D) (ci := 6) (v := .int x_1767) (ty := .int) (C := RX6) (T := TX6) (N := 10) hx hb hts k2 tyX6 tyX6_ok nmX6 hown hK.1 hP hD hS 0 rfl rfl 9 (by decide) k7 (fun _ h9 => h9) rfl (by decide +kernel) rfl rfl (Nat.le_of_ble_eq_true rfl) dX6_readRun_93 (fun H locs hP hD hS => ?_)
              have hP : va_P D vwCl [(h0, .inr (6, [.ref h0_bytes, .int h0_length, .int h0_faultKind, .int h0_faultAt, .long y9_2, .int h0_mostBytes, .int y9_3, .int h0_at, .int h0_kind, .int x_1767])), (aI ca h0_bytes 940 F_h0_bytes)] H := hP
              have hD : va_D A [(h0, .inr (6, [.ref h0_bytes, .int h0_length, .int h0_faultKind, .int h0_faultAt, .long y9_2, .int h0_mostBytes, .int y9_3, .int h0_at, .int h0_kind, .int x_1767])), (aI ca h0_bytes 940 F_h0_bytes)] := hD
              obtain ⟨x_1768, ex_1768⟩ : ∃ y : Int32, y = y9_1 + 1 := ⟨_, rfl⟩
              have hY := hY.trans (lt1_e ex_1768)
              refine lv_iinc (v := x_1768) (lv' := [(2, .int x_1768), (3, .int x_1748), (0, .ref h0), (1, .int y9_0)]) hx hb dX6_readRun_96 hl (k := 3) rfl (by rw [ex_1768]; rfl) (by decide) rfl (fun ls hl => ?_)
              refine lv_aload_n hx hb dX6_readRun_99 rfl (lv_at hl 2 rfl) ?_
              refine lv_dup hx hb dX6_readRun_100 rfl ?_
              refine va_get (D := D) (ci := 6) (v := .int y9_3) (C := RX6) (T := TX6) (N := 10) hx hb hts k2 hown hK.1 hP 0 rfl rfl 6 (by decide) k4 (fun _ h9 => h9) rfl dX6_readRun_101 ?_
              refine lv_iconst (v := 1) hx hb dX6_readRun_104 (by decide) ?_
              refine lv_iadd hx hb dX6_readRun_105 ?_
              refine lv_topi (fun x_1769 ex_1769 => ?_)
              have hY := hY.trans (lt1_e ex_1769)
              have h_1770 : rg 1 940 x_1769 := by rw [ex_1769]; exact rg_add h_1746 (⟨by decide, by decide⟩ : rg 1 1 (1 : Int32)) (by decide) (by decide) (by decide) (by decide)
              have l_1771 : lq x_1769.toInt (y9_3.toInt + 1) := lqm (by rw [ex_1769]; have q := tadd h_1746 (⟨by decide, by decide⟩ : rg 1 1 (1 : Int32)) (by decide) (by decide); have r1 := lqe (lqm (by decide) : lq (1 : Int32).toInt 1); omega)
              refine va_put (D := D) (ci := 6) (v := .int x_1769) (ty := .int) (C := RX6) (T := TX6) (N := 10) hx hb hts k2 tyX6 tyX6_ok nmX6 hown hK.1 hP hD hS 0 rfl rfl 6 (by decide) k4 (fun _ h9 => h9) rfl (by decide +kernel) rfl rfl (Nat.le_of_ble_eq_true rfl) dX6_readRun_106 (fun H locs hP hD hS => ?_)
              have hP : va_P D vwCl [(h0, .inr (6, [.ref h0_bytes, .int h0_length, .int h0_faultKind, .int h0_faultAt, .long y9_2, .int h0_mostBytes, .int x_1769, .int h0_at, .int h0_kind, .int x_1767])), (aI ca h0_bytes 940 F_h0_bytes)] H := hP
              have hD : va_D A [(h0, .inr (6, [.ref h0_bytes, .int h0_length, .int h0_faultKind, .int h0_faultAt, .long y9_2, .int h0_mostBytes, .int x_1769, .int h0_at, .int h0_kind, .int x_1767])), (aI ca h0_bytes 940 F_h0_bytes)] := hD
              refine lv_goto (tgt := 9) hx hb dX6_readRun_109 (by decide) ?_
              exact ih9 y9_0 x_1768 y9_2 x_1769 x_1767 trivial (rgw (lo := 0) (hi := 940) h_1770 (by decide) (by decide)) (rlm (by have q0 := lqe l_1771; have q1 := rle py9_3_h0_behind; omega)) (by have q0 := lqe l_1771; omega) hY H locs ls (oPsub hP [0, 1] rfl) (hD.sub [0, 1] (by decide) rfl) hS (lv_sub hl [2, 3, 0] rfl)
        · skip
          have hY := hY.trans (if_neg c_1750)
          have o_1772 : rl 0 97 x_1748 := rl_nlt c_1750
          have h_1773 : rg 97 255 x_1748 := rl_y o_1772 (⟨by decide, by decide⟩ : rg 97 97 (97 : Int32)) h_1749 (by decide) (by decide)
          refine lv_iload_n hx hb dX6_readRun_36 rfl (lv_at hl 0 rfl) ?_
          refine lv_bipush (v := 122) hx hb dX6_readRun_37 (by decide) ?_
          refine lv_icmp_gt (tgt := 68) hx hb dX6_readRun_39 (by decide) (fun c_1774 => ?_) (fun c_1774 => ?_)
          · skip
            have hY := hY.trans (if_pos c_1774)
            have o_1775 : rl 1 122 x_1748 := rl_lt c_1774
            have h_1776 : rg 123 255 x_1748 := rl_y o_1775 (⟨by decide, by decide⟩ : rg 122 122 (122 : Int32)) h_1773 (by decide) (by decide)
            refine lv_iload_n hx hb dX6_readRun_68 rfl (lv_at hl 0 rfl) ?_
            refine lv_bipush (v := 48) hx hb dX6_readRun_69 (by decide) ?_
            refine lv_icmp_lt (tgt := 112) hx hb dX6_readRun_71 (by decide) (fun c => absurd c (no_lt h_1776 (⟨by decide, by decide⟩ : rg 48 48 (48 : Int32)) (by decide))) (fun _ => ?_)
            refine lv_iload_n hx hb dX6_readRun_74 rfl (lv_at hl 0 rfl) ?_
            refine lv_bipush (v := 57) hx hb dX6_readRun_75 (by decide) ?_
            refine lv_icmp_gt (tgt := 112) hx hb dX6_readRun_77 (by decide) (fun _ => ?_) (fun c => absurd (is_lt (⟨by decide, by decide⟩ : rg 57 57 (57 : Int32)) h_1776 (by decide)) c)
            exact J112_1682 y9_0 y9_1 y9_2 y9_3 y9_4 (rgw (lo := 0) (hi := 940) h_1746 (by decide) (by decide)) (rlm (by have q0 := rle py9_3_h0_behind; omega)) hY H locs ls (oPsub hP [0, 1] rfl) (hD.sub [0, 1] (by decide) rfl) hS (lv_sub hl [1, 2, 3] rfl)
          · skip
            have hY := hY.trans (if_neg c_1774)
            have o_1777 : rl 0 x_1748 122 := rl_nlt c_1774
            have h_1778 : rg 97 122 x_1748 := rl_x o_1777 h_1773 (⟨by decide, by decide⟩ : rg 122 122 (122 : Int32)) (by decide) (by decide)
            refine lv_aload_n hx hb dX6_readRun_42 rfl (lv_at hl 1 rfl) ?_
            refine lv_aload_n hx hb dX6_readRun_43 rfl (lv_at hl 1 rfl) ?_
            refine va_get (D := D) (ci := 6) (v := .long y9_2) (C := RX6) (T := TX6) (N := 10) hx hb hts k2 hown hK.1 hP 0 rfl rfl 4 (by decide) k3 (fun _ h9 => h9) rfl dX6_readRun_44 ?_
            refine lv_ldc2 (v := 32) hx hb hown k8 dX6_readRun_47 ?_
            refine lv_lmul hx hb dX6_readRun_50 ?_
            refine lv_topl (fun x_1779 ex_1779 => ?_)
            have hY := hY.trans (lt1_e ex_1779)
            refine lv_iload_n hx hb dX6_readRun_51 rfl (lv_at hl 0 rfl) ?_
            refine lv_bipush (v := 97) hx hb dX6_readRun_52 (by decide) ?_
            refine lv_isub hx hb dX6_readRun_54 ?_
            refine lv_topi (fun x_1780 ex_1780 => ?_)
            have hY := hY.trans (lt1_e ex_1780)
            have h_1781 : rg 0 25 x_1780 := by rw [ex_1780]; exact rg_sub h_1778 (⟨by decide, by decide⟩ : rg 97 97 (97 : Int32)) (by decide) (by decide) (by decide) (by decide)
            have l_1782 : lq x_1780.toInt (x_1748.toInt + (-97)) := lqm (by rw [ex_1780]; have q := tsub h_1778 (⟨by decide, by decide⟩ : rg 97 97 (97 : Int32)) (by decide) (by decide); have r1 := lqe (lqm (by decide) : lq (97 : Int32).toInt 97); omega)
            refine lv_iconst (v := 1) hx hb dX6_readRun_55 (by decide) ?_
            refine lv_iadd hx hb dX6_readRun_56 ?_
            refine lv_topi (fun x_1783 ex_1783 => ?_)
            have hY := hY.trans (lt1_e ex_1783)
            have h_1784 : rg 1 26 x_1783 := by rw [ex_1783]; exact rg_add h_1781 (⟨by decide, by decide⟩ : rg 1 1 (1 : Int32)) (by decide) (by decide) (by decide) (by decide)
            have l_1785 : lq x_1783.toInt (x_1748.toInt + (-96)) := lqm (by rw [ex_1783]; have q := tadd h_1781 (⟨by decide, by decide⟩ : rg 1 1 (1 : Int32)) (by decide) (by decide); have r0 := lqe l_1782; have r1 := lqe (lqm (by decide) : lq (1 : Int32).toInt 1); omega)
            refine lv_i2l hx hb dX6_readRun_57 rfl ?_
            refine lv_topl (fun x_1786 ex_1786 => ?_)
            have hY := hY.trans (lt1_e ex_1786)
            refine lv_ladd hx hb dX6_readRun_58 ?_
            refine lv_topl (fun x_1787 ex_1787 => ?_)
            have hY := hY.trans (lt1_e ex_1787)
            refine va_put (D := D) (ci := 6) (v := .long x_1787) (ty := .long) (C := RX6) (T := TX6) (N := 10) hx hb hts k2 tyX6 tyX6_ok nmX6 hown hK.1 hP hD hS 0 rfl rfl 4 (by decide) k3 (fun _ h9 => h9) rfl (by decide +kernel) rfl rfl (Nat.le_of_ble_eq_true rfl) dX6_readRun_59 (fun H locs hP hD hS => ?_)
            have hP : va_P D vwCl [(h0, .inr (6, [.ref h0_bytes, .int h0_length, .int h0_faultKind, .int h0_faultAt, .long x_1787, .int h0_mostBytes, .int y9_3, .int h0_at, .int h0_kind, .int y9_4])), (aI ca h0_bytes 940 F_h0_bytes)] H := hP
            have hD : va_D A [(h0, .inr (6, [.ref h0_bytes, .int h0_length, .int h0_faultKind, .int h0_faultAt, .long x_1787, .int h0_mostBytes, .int y9_3, .int h0_at, .int h0_kind, .int y9_4])), (aI ca h0_bytes 940 F_h0_bytes)] := hD
            obtain ⟨x_1788, ex_1788⟩ : ∃ y : Int32, y = y9_0 + 1 := ⟨_, rfl⟩
            have hY := hY.trans (lt1_e ex_1788)
            refine lv_iinc (v := x_1788) (lv' := [(1, .int x_1788), (3, .int x_1748), (0, .ref h0), (2, .int y9_1)]) hx hb dX6_readRun_62 hl (k := 2) rfl (by rw [ex_1788]; rfl) (by decide) rfl (fun ls hl => ?_)
            refine lv_goto (tgt := 99) hx hb dX6_readRun_65 (by decide) ?_
            refine lv_aload_n hx hb dX6_readRun_99 rfl (lv_at hl 2 rfl) ?_
            refine lv_dup hx hb dX6_readRun_100 rfl ?_
            refine va_get (D := D) (ci := 6) (v := .int y9_3) (C := RX6) (T := TX6) (N := 10) hx hb hts k2 hown hK.1 hP 0 rfl rfl 6 (by decide) k4 (fun _ h9 => h9) rfl dX6_readRun_101 ?_
            refine lv_iconst (v := 1) hx hb dX6_readRun_104 (by decide) ?_
            refine lv_iadd hx hb dX6_readRun_105 ?_
            refine lv_topi (fun x_1789 ex_1789 => ?_)
            have hY := hY.trans (lt1_e ex_1789)
            have h_1790 : rg 1 940 x_1789 := by rw [ex_1789]; exact rg_add h_1746 (⟨by decide, by decide⟩ : rg 1 1 (1 : Int32)) (by decide) (by decide) (by decide) (by decide)
            have l_1791 : lq x_1789.toInt (y9_3.toInt + 1) := lqm (by rw [ex_1789]; have q := tadd h_1746 (⟨by decide, by decide⟩ : rg 1 1 (1 : Int32)) (by decide) (by decide); have r1 := lqe (lqm (by decide) : lq (1 : Int32).toInt 1); omega)
            refine va_put (D := D) (ci := 6) (v := .int x_1789) (ty := .int) (C := RX6) (T := TX6) (N := 10) hx hb hts k2 tyX6 tyX6_ok nmX6 hown hK.1 hP hD hS 0 rfl rfl 6 (by decide) k4 (fun _ h9 => h9) rfl (by decide +kernel) rfl rfl (Nat.le_of_ble_eq_true rfl) dX6_readRun_106 (fun H locs hP hD hS => ?_)
            have hP : va_P D vwCl [(h0, .inr (6, [.ref h0_bytes, .int h0_length, .int h0_faultKind, .int h0_faultAt, .long x_1787, .int h0_mostBytes, .int x_1789, .int h0_at, .int h0_kind, .int y9_4])), (aI ca h0_bytes 940 F_h0_bytes)] H := hP
            have hD : va_D A [(h0, .inr (6, [.ref h0_bytes, .int h0_length, .int h0_faultKind, .int h0_faultAt, .long x_1787, .int h0_mostBytes, .int x_1789, .int h0_at, .int h0_kind, .int y9_4])), (aI ca h0_bytes 940 F_h0_bytes)] := hD
            refine lv_goto (tgt := 9) hx hb dX6_readRun_109 (by decide) ?_
            exact ih9 x_1788 y9_1 x_1787 x_1789 y9_4 trivial (rgw (lo := 0) (hi := 940) h_1790 (by decide) (by decide)) (rlm (by have q0 := lqe l_1791; have q1 := rle py9_3_h0_behind; omega)) (by have q0 := lqe l_1791; omega) hY H locs ls (oPsub hP [0, 1] rfl) (hD.sub [0, 1] (by decide) rfl) hS (lv_sub hl [2, 0, 3] rfl)
  refine lv_iconst (v := 0) hx hb dX6_readRun_0 (by decide) ?_
  refine lv_istore_n (lv' := [(1, .int 0), (0, .ref h0)]) hx hb dX6_readRun_1 rfl hl (by decide) rfl (fun ls hl => ?_)
  refine lv_iconst (v := 0) hx hb dX6_readRun_2 (by decide) ?_
  refine lv_istore_n (lv' := [(2, .int 0), (1, .int 0), (0, .ref h0)]) hx hb dX6_readRun_3 rfl hl (by decide) rfl (fun ls hl => ?_)
  refine lv_aload_n hx hb dX6_readRun_4 rfl (lv_at hl 2 rfl) ?_
  refine lv_iconst (v := 0) hx hb dX6_readRun_5 (by decide) ?_
  refine va_put (D := D) (ci := 6) (v := .int 0) (ty := .int) (C := RX6) (T := TX6) (N := 10) hx hb hts k2 tyX6 tyX6_ok nmX6 hown hK.1 hP hD hS 0 rfl rfl 9 (by decide) k7 (fun _ h9 => h9) rfl (by decide +kernel) rfl rfl (Nat.le_of_ble_eq_true rfl) dX6_readRun_6 (fun H locs hP hD hS => ?_)
  have hP : va_P D vwCl [(h0, .inr (6, [.ref h0_bytes, .int h0_length, .int h0_faultKind, .int h0_faultAt, .long h0_letters, .int h0_mostBytes, .int h0_behind, .int h0_at, .int h0_kind, .int 0])), (aI ca h0_bytes 940 F_h0_bytes)] H := hP
  have hD : va_D A [(h0, .inr (6, [.ref h0_bytes, .int h0_length, .int h0_faultKind, .int h0_faultAt, .long h0_letters, .int h0_mostBytes, .int h0_behind, .int h0_at, .int h0_kind, .int 0])), (aI ca h0_bytes 940 F_h0_bytes)] := hD
  exact J9_1693 941 0 0 h0_letters h0_behind 0 trivial i_h0_behind (rlm (by omega)) (by have q0 := i_h0_behind.1; omega) hY H locs ls (oPsub hP [0, 1] rfl) (hD.sub [0, 1] (by decide) rfl) hS (lv_sub hl [2, 1, 0] rfl)
theorem dX6_isSign_0 : decode cX6_isSign 0 = .ok (.iload_n 0, 1) := by decide +kernel
theorem dX6_isSign_1 : decode cX6_isSign 1 = .ok (.bipush 59, 2) := by decide +kernel
theorem dX6_isSign_3 : decode cX6_isSign 3 = .ok (.if_icmp .eq 33, 3) := by decide +kernel
theorem dX6_isSign_6 : decode cX6_isSign 6 = .ok (.iload_n 0, 1) := by decide +kernel
theorem dX6_isSign_7 : decode cX6_isSign 7 = .ok (.bipush 60, 2) := by decide +kernel
theorem dX6_isSign_9 : decode cX6_isSign 9 = .ok (.if_icmp .eq 27, 3) := by decide +kernel
theorem dX6_isSign_12 : decode cX6_isSign 12 = .ok (.iload_n 0, 1) := by decide +kernel
theorem dX6_isSign_13 : decode cX6_isSign 13 = .ok (.bipush 61, 2) := by decide +kernel
theorem dX6_isSign_15 : decode cX6_isSign 15 = .ok (.if_icmp .eq 21, 3) := by decide +kernel
theorem dX6_isSign_18 : decode cX6_isSign 18 = .ok (.iload_n 0, 1) := by decide +kernel
theorem dX6_isSign_19 : decode cX6_isSign 19 = .ok (.bipush 62, 2) := by decide +kernel
theorem dX6_isSign_21 : decode cX6_isSign 21 = .ok (.if_icmp .eq 15, 3) := by decide +kernel
theorem dX6_isSign_24 : decode cX6_isSign 24 = .ok (.iload_n 0, 1) := by decide +kernel
theorem dX6_isSign_25 : decode cX6_isSign 25 = .ok (.bipush 40, 2) := by decide +kernel
theorem dX6_isSign_27 : decode cX6_isSign 27 = .ok (.if_icmp .eq 9, 3) := by decide +kernel
theorem dX6_isSign_30 : decode cX6_isSign 30 = .ok (.iload_n 0, 1) := by decide +kernel
theorem dX6_isSign_31 : decode cX6_isSign 31 = .ok (.bipush 41, 2) := by decide +kernel
theorem dX6_isSign_33 : decode cX6_isSign 33 = .ok (.if_icmp .ne 7, 3) := by decide +kernel
theorem dX6_isSign_36 : decode cX6_isSign 36 = .ok (.iconst 1, 1) := by decide +kernel
theorem dX6_isSign_37 : decode cX6_isSign 37 = .ok (.goto 4, 3) := by decide +kernel
theorem dX6_isSign_40 : decode cX6_isSign 40 = .ok (.iconst 0, 1) := by decide +kernel
theorem dX6_isSign_41 : decode cX6_isSign 41 = .ok (.ireturn, 1) := by decide +kernel
set_option maxHeartbeats 4000000 in
set_option maxRecDepth 100000 in
theorem e_X6_isSign (l : Launch) (D : va_G) (ca : Nat → ClassId) (sz : Nat) (a1 : Int32)  : oMet l yX6_isSign wsX6_isSign ({ frames := 0, cells := 0, slots := 0, locals := 0 } : Room) [.int a1] D ca sz [] (oQi D (fun (r : Int32) (u : Unit) => ((r = 1) ∧ (rg 40 62 a1) ∧ (r = y_X6_isSign a1)) ∨ ((r = 0) ∧ (r = y_X6_isSign a1))) (fun (u : Unit) => [])) 0 0 := by
  refine oM (cc := cX6_isSign) (maxL := 1) (ret := (some .boolean)) (by decide) rfl (Nat.le_of_ble_eq_true rfl) [(0, .int a1)] rfl ?_
  intro p e s m below meth c A H locs ls hx hb hr hml hts hown hlocks hin hK hP hD hA hS hl
  have hown : s.vm.findClass RX6 = some m.cls := hown
  have hY := y_X6_isSign_s a1
  refine lv_iload_n hx hb dX6_isSign_0 rfl (lv_at hl 0 rfl) ?_
  refine lv_bipush (v := 59) hx hb dX6_isSign_1 (by decide) ?_
  refine lv_icmp_eq (tgt := 36) hx hb dX6_isSign_3 (by decide) (fun c_31 => ?_) (fun c_31 => ?_)
  · skip
    have hY := hY.trans (if_pos c_31)
    have o_32 : rl 0 a1 59 := rl_eq c_31
    have h_33 : rg (-2147483648) 59 a1 := rl_x o_32 (rga a1) (⟨by decide, by decide⟩ : rg 59 59 (59 : Int32)) (by decide) (by decide)
    have o_34 : rl 0 59 a1 := rl_eq c_31.symm
    have h_35 : rg 59 59 a1 := rl_y o_34 (⟨by decide, by decide⟩ : rg 59 59 (59 : Int32)) h_33 (by decide) (by decide)
    refine lv_iconst (v := 1) hx hb dX6_isSign_36 (by decide) ?_
    refine lv_goto (tgt := 41) hx hb dX6_isSign_37 (by decide) ?_
    exact oE_i hx hb hr (by decide) hlocks hP hD hS () [] rfl (by decide) (Or.inl ⟨rfl, (rgw (lo := 40) (hi := 62) h_35 (by decide) (by decide)), hY.symm⟩) (Nat.le_of_ble_eq_true rfl) (Nat.le_of_ble_eq_true rfl) dX6_isSign_41
  · skip
    have hY := hY.trans (if_neg c_31)
    refine lv_iload_n hx hb dX6_isSign_6 rfl (lv_at hl 0 rfl) ?_
    refine lv_bipush (v := 60) hx hb dX6_isSign_7 (by decide) ?_
    refine lv_icmp_eq (tgt := 36) hx hb dX6_isSign_9 (by decide) (fun c_36 => ?_) (fun c_36 => ?_)
    · skip
      have hY := hY.trans (if_pos c_36)
      have o_37 : rl 0 a1 60 := rl_eq c_36
      have h_38 : rg (-2147483648) 60 a1 := rl_x o_37 (rga a1) (⟨by decide, by decide⟩ : rg 60 60 (60 : Int32)) (by decide) (by decide)
      have o_39 : rl 0 60 a1 := rl_eq c_36.symm
      have h_40 : rg 60 60 a1 := rl_y o_39 (⟨by decide, by decide⟩ : rg 60 60 (60 : Int32)) h_38 (by decide) (by decide)
      refine lv_iconst (v := 1) hx hb dX6_isSign_36 (by decide) ?_
      refine lv_goto (tgt := 41) hx hb dX6_isSign_37 (by decide) ?_
      exact oE_i hx hb hr (by decide) hlocks hP hD hS () [] rfl (by decide) (Or.inl ⟨rfl, (rgw (lo := 40) (hi := 62) h_40 (by decide) (by decide)), hY.symm⟩) (Nat.le_of_ble_eq_true rfl) (Nat.le_of_ble_eq_true rfl) dX6_isSign_41
    · skip
      have hY := hY.trans (if_neg c_36)
      refine lv_iload_n hx hb dX6_isSign_12 rfl (lv_at hl 0 rfl) ?_
      refine lv_bipush (v := 61) hx hb dX6_isSign_13 (by decide) ?_
      refine lv_icmp_eq (tgt := 36) hx hb dX6_isSign_15 (by decide) (fun c_41 => ?_) (fun c_41 => ?_)
      · skip
        have hY := hY.trans (if_pos c_41)
        have o_42 : rl 0 a1 61 := rl_eq c_41
        have h_43 : rg (-2147483648) 61 a1 := rl_x o_42 (rga a1) (⟨by decide, by decide⟩ : rg 61 61 (61 : Int32)) (by decide) (by decide)
        have o_44 : rl 0 61 a1 := rl_eq c_41.symm
        have h_45 : rg 61 61 a1 := rl_y o_44 (⟨by decide, by decide⟩ : rg 61 61 (61 : Int32)) h_43 (by decide) (by decide)
        refine lv_iconst (v := 1) hx hb dX6_isSign_36 (by decide) ?_
        refine lv_goto (tgt := 41) hx hb dX6_isSign_37 (by decide) ?_
        exact oE_i hx hb hr (by decide) hlocks hP hD hS () [] rfl (by decide) (Or.inl ⟨rfl, (rgw (lo := 40) (hi := 62) h_45 (by decide) (by decide)), hY.symm⟩) (Nat.le_of_ble_eq_true rfl) (Nat.le_of_ble_eq_true rfl) dX6_isSign_41
      · skip
        have hY := hY.trans (if_neg c_41)
        refine lv_iload_n hx hb dX6_isSign_18 rfl (lv_at hl 0 rfl) ?_
        refine lv_bipush (v := 62) hx hb dX6_isSign_19 (by decide) ?_
        refine lv_icmp_eq (tgt := 36) hx hb dX6_isSign_21 (by decide) (fun c_46 => ?_) (fun c_46 => ?_)
        · skip
          have hY := hY.trans (if_pos c_46)
          have o_47 : rl 0 a1 62 := rl_eq c_46
          have h_48 : rg (-2147483648) 62 a1 := rl_x o_47 (rga a1) (⟨by decide, by decide⟩ : rg 62 62 (62 : Int32)) (by decide) (by decide)
          have o_49 : rl 0 62 a1 := rl_eq c_46.symm
          have h_50 : rg 62 62 a1 := rl_y o_49 (⟨by decide, by decide⟩ : rg 62 62 (62 : Int32)) h_48 (by decide) (by decide)
          refine lv_iconst (v := 1) hx hb dX6_isSign_36 (by decide) ?_
          refine lv_goto (tgt := 41) hx hb dX6_isSign_37 (by decide) ?_
          exact oE_i hx hb hr (by decide) hlocks hP hD hS () [] rfl (by decide) (Or.inl ⟨rfl, (rgw (lo := 40) (hi := 62) h_50 (by decide) (by decide)), hY.symm⟩) (Nat.le_of_ble_eq_true rfl) (Nat.le_of_ble_eq_true rfl) dX6_isSign_41
        · skip
          have hY := hY.trans (if_neg c_46)
          refine lv_iload_n hx hb dX6_isSign_24 rfl (lv_at hl 0 rfl) ?_
          refine lv_bipush (v := 40) hx hb dX6_isSign_25 (by decide) ?_
          refine lv_icmp_eq (tgt := 36) hx hb dX6_isSign_27 (by decide) (fun c_51 => ?_) (fun c_51 => ?_)
          · skip
            have hY := hY.trans (if_pos c_51)
            have o_52 : rl 0 a1 40 := rl_eq c_51
            have h_53 : rg (-2147483648) 40 a1 := rl_x o_52 (rga a1) (⟨by decide, by decide⟩ : rg 40 40 (40 : Int32)) (by decide) (by decide)
            have o_54 : rl 0 40 a1 := rl_eq c_51.symm
            have h_55 : rg 40 40 a1 := rl_y o_54 (⟨by decide, by decide⟩ : rg 40 40 (40 : Int32)) h_53 (by decide) (by decide)
            refine lv_iconst (v := 1) hx hb dX6_isSign_36 (by decide) ?_
            refine lv_goto (tgt := 41) hx hb dX6_isSign_37 (by decide) ?_
            exact oE_i hx hb hr (by decide) hlocks hP hD hS () [] rfl (by decide) (Or.inl ⟨rfl, (rgw (lo := 40) (hi := 62) h_55 (by decide) (by decide)), hY.symm⟩) (Nat.le_of_ble_eq_true rfl) (Nat.le_of_ble_eq_true rfl) dX6_isSign_41
          · skip
            have hY := hY.trans (if_neg c_51)
            refine lv_iload_n hx hb dX6_isSign_30 rfl (lv_at hl 0 rfl) ?_
            refine lv_bipush (v := 41) hx hb dX6_isSign_31 (by decide) ?_
            refine lv_icmp_ne (tgt := 40) hx hb dX6_isSign_33 (by decide) (fun c_56 => ?_) (fun c_56 => ?_)
            · skip
              have hY := hY.trans (if_neg c_56)
              refine lv_iconst (v := 0) hx hb dX6_isSign_40 (by decide) ?_
              exact oE_i hx hb hr (by decide) hlocks hP hD hS () [] rfl (by decide) (Or.inr (⟨rfl, hY.symm⟩)) (Nat.le_of_ble_eq_true rfl) (Nat.le_of_ble_eq_true rfl) dX6_isSign_41
            · skip
              have hY := hY.trans (if_pos c_56)
              have o_57 : rl 0 a1 41 := rl_eq c_56
              have h_58 : rg (-2147483648) 41 a1 := rl_x o_57 (rga a1) (⟨by decide, by decide⟩ : rg 41 41 (41 : Int32)) (by decide) (by decide)
              have o_59 : rl 0 41 a1 := rl_eq c_56.symm
              have h_60 : rg 41 41 a1 := rl_y o_59 (⟨by decide, by decide⟩ : rg 41 41 (41 : Int32)) h_58 (by decide) (by decide)
              refine lv_iconst (v := 1) hx hb dX6_isSign_36 (by decide) ?_
              refine lv_goto (tgt := 41) hx hb dX6_isSign_37 (by decide) ?_
              exact oE_i hx hb hr (by decide) hlocks hP hD hS () [] rfl (by decide) (Or.inl ⟨rfl, (rgw (lo := 40) (hi := 62) h_60 (by decide) (by decide)), hY.symm⟩) (Nat.le_of_ble_eq_true rfl) (Nat.le_of_ble_eq_true rfl) dX6_isSign_41
theorem dX6_advance_0 : decode cX6_advance 0 = .ok (.aload_n 0, 1) := by decide +kernel
theorem dX6_advance_1 : decode cX6_advance 1 = .ok (.invokevirtual 34, 3) := by decide +kernel
theorem dX6_advance_4 : decode cX6_advance 4 = .ok (.ifCond .eq 4, 3) := by decide +kernel
theorem dX6_advance_7 : decode cX6_advance 7 = .ok (.return_, 1) := by decide +kernel
set_option maxRecDepth 20000 in
theorem ggX6_advance_X6_isBroken : GoodIn wsX6_advance wsX6_isBroken := goodIn_r _ [16, 17, 27, 28, 29, 30, 31, 32, 33, 34, 35, 36] rfl (by decide +kernel)
set_option maxRecDepth 20000 in
theorem gX6_advance_X6_isBroken : GoodIn wsX6_advance (wsV RX6 34 RX6 yX6_isBroken wsX6_isBroken) := goodIn_app (goodIn_of _ (by decide +kernel)) ggX6_advance_X6_isBroken
set_option maxHeartbeats 4000000 in
set_option maxRecDepth 100000 in
theorem e_X6_advance_br (l : Launch) (D : va_G) (ca : Nat → ClassId) (sz : Nat) (h0 : Nat) (h0_bytes : Nat) (h0_length : Int32) (h0_faultKind : Int32) (h0_faultAt : Int32) (h0_letters : Int64) (h0_mostBytes : Int32) (h0_behind : Int32) (h0_at : Int32) (h0_kind : Int32) (h0_number : Int32) (i_h0_length : rg 0 940 h0_length) (i_h0_faultKind : rg 1 4 h0_faultKind) (i_h0_behind : rg 0 940 h0_behind) : oMet l yX6_advance wsX6_advance ({ frames := 1, cells := 0, slots := 0, locals := 20 } : Room) [.ref h0] D ca sz [(h0, .inr (6, [.ref h0_bytes, .int h0_length, .int h0_faultKind, .int h0_faultAt, .long h0_letters, .int h0_mostBytes, .int h0_behind, .int h0_at, .int h0_kind, .int h0_number]))] (oQv D (fun (u : Unit) => True) (fun (u : Unit) => [(h0, .inr (6, [.ref h0_bytes, .int h0_length, .int h0_faultKind, .int h0_faultAt, .long h0_letters, .int h0_mostBytes, .int h0_behind, .int h0_at, .int h0_kind, .int h0_number]))])) 0 0 := by
  refine oM (cc := cX6_advance) (maxL := 2) (ret := none) (by decide) rfl (Nat.le_of_ble_eq_true rfl) [(0, .ref h0)] rfl ?_
  intro p e s m below meth c A H locs ls hx hb hr hml hts hown hlocks hin hK hP hD hA hS hl
  have hown : s.vm.findClass RX6 = some m.cls := hown
  refine lv_aload_n hx hb dX6_advance_0 rfl (lv_at hl 0 rfl) ?_
  refine oC_i (Wc := [(h0, .inr (6, [.ref h0_bytes, .int h0_length, .int h0_faultKind, .int h0_faultAt, .long h0_letters, .int h0_mostBytes, .int h0_behind, .int h0_at, .int h0_kind, .int h0_number]))]) (Wr := []) (va_runV (As := []) (rest := []) ⟨hx, hb, hml, hown, hts⟩ (e_X6_isBroken l D ca H.size h0 h0_bytes h0_length h0_faultKind h0_faultAt h0_letters h0_mostBytes h0_behind h0_at h0_kind h0_number i_h0_length (rgw (lo := 0) (hi := 4) i_h0_faultKind (by decide) (by decide)) i_h0_behind) (cwV 0 hts gX6_advance_X6_isBroken rfl rfl rfl (by decide +kernel) ⟨Nat.le_of_ble_eq_true rfl, Nat.le_of_ble_eq_true rfl⟩) (oPV (C := RX6) hK hP hD [0] rfl (by decide) 0 rfl (ci := 6) rfl rfl) rfl rfl hl.1 rfl (lv_room (Nat.le_of_ble_eq_true rfl)) dX6_advance_1 ⟨Nat.le_of_ble_eq_true rfl, Nat.le_of_ble_eq_true rfl⟩) hP hD hS hA [0] [] rfl rfl (by decide) (by decide) (fun r_9 u H locs w_10 hP hD hS => ?_)
  obtain ⟨⟩ := u
  have hP : va_P D vwCl [(h0, .inr (6, [.ref h0_bytes, .int h0_length, .int h0_faultKind, .int h0_faultAt, .long h0_letters, .int h0_mostBytes, .int h0_behind, .int h0_at, .int h0_kind, .int h0_number]))] H := hP
  have hD : va_D A [(h0, .inr (6, [.ref h0_bytes, .int h0_length, .int h0_faultKind, .int h0_faultAt, .long h0_letters, .int h0_mostBytes, .int h0_behind, .int h0_at, .int h0_kind, .int h0_number]))] := hD
  try dsimp only at w_10
  rcases w_10 with ⟨h_11, h_12, h_13⟩ | ⟨h_14, h_15, h_16⟩
  · skip
    subst h_11
    exact (rg_no h_12 i_h0_faultKind (by decide)).elim
  · skip
    subst h_14
    refine lv_if_eq (tgt := 8) hx hb dX6_advance_4 (by decide) (fun c => absurd c (by decide)) (fun _ => ?_)
    exact oE_v hx hb hr hlocks hP hD hS () [0] rfl (by decide) trivial (Nat.le_of_ble_eq_true rfl) (Nat.le_of_ble_eq_true rfl) dX6_advance_7
theorem dX6_advance_8 : decode cX6_advance 8 = .ok (.aload_n 0, 1) := by decide +kernel
theorem dX6_advance_9 : decode cX6_advance 9 = .ok (.getfield 15, 3) := by decide +kernel
theorem dX6_advance_12 : decode cX6_advance 12 = .ok (.aload_n 0, 1) := by decide +kernel
theorem dX6_advance_13 : decode cX6_advance 13 = .ok (.getfield 19, 3) := by decide +kernel
theorem dX6_advance_16 : decode cX6_advance 16 = .ok (.invokestatic 38, 3) := by decide +kernel
theorem dX6_advance_19 : decode cX6_advance 19 = .ok (.istore_n 1, 1) := by decide +kernel
theorem dX6_advance_20 : decode cX6_advance 20 = .ok (.aload_n 0, 1) := by decide +kernel
theorem dX6_advance_21 : decode cX6_advance 21 = .ok (.getfield 22, 3) := by decide +kernel
theorem dX6_advance_24 : decode cX6_advance 24 = .ok (.iload_n 1, 1) := by decide +kernel
theorem dX6_advance_25 : decode cX6_advance 25 = .ok (.if_icmp .ge 44, 3) := by decide +kernel
theorem dX6_advance_28 : decode cX6_advance 28 = .ok (.aload_n 0, 1) := by decide +kernel
theorem dX6_advance_29 : decode cX6_advance 29 = .ok (.getfield 9, 3) := by decide +kernel
theorem dX6_advance_32 : decode cX6_advance 32 = .ok (.aload_n 0, 1) := by decide +kernel
theorem dX6_advance_33 : decode cX6_advance 33 = .ok (.getfield 22, 3) := by decide +kernel
theorem dX6_advance_36 : decode cX6_advance 36 = .ok (.iaload, 1) := by decide +kernel
theorem dX6_advance_37 : decode cX6_advance 37 = .ok (.bipush 32, 2) := by decide +kernel
theorem dX6_advance_39 : decode cX6_advance 39 = .ok (.if_icmp .eq 17, 3) := by decide +kernel
theorem dX6_advance_42 : decode cX6_advance 42 = .ok (.aload_n 0, 1) := by decide +kernel
theorem dX6_advance_43 : decode cX6_advance 43 = .ok (.getfield 9, 3) := by decide +kernel
theorem dX6_advance_46 : decode cX6_advance 46 = .ok (.aload_n 0, 1) := by decide +kernel
theorem dX6_advance_47 : decode cX6_advance 47 = .ok (.getfield 22, 3) := by decide +kernel
theorem dX6_advance_50 : decode cX6_advance 50 = .ok (.iaload, 1) := by decide +kernel
theorem dX6_advance_51 : decode cX6_advance 51 = .ok (.bipush 10, 2) := by decide +kernel
theorem dX6_advance_53 : decode cX6_advance 53 = .ok (.if_icmp .ne 16, 3) := by decide +kernel
theorem dX6_advance_56 : decode cX6_advance 56 = .ok (.aload_n 0, 1) := by decide +kernel
theorem dX6_advance_57 : decode cX6_advance 57 = .ok (.dup, 1) := by decide +kernel
theorem dX6_advance_58 : decode cX6_advance 58 = .ok (.getfield 22, 3) := by decide +kernel
theorem dX6_advance_61 : decode cX6_advance 61 = .ok (.iconst 1, 1) := by decide +kernel
theorem dX6_advance_62 : decode cX6_advance 62 = .ok (.iadd, 1) := by decide +kernel
theorem dX6_advance_63 : decode cX6_advance 63 = .ok (.putfield 22, 3) := by decide +kernel
theorem dX6_advance_66 : decode cX6_advance 66 = .ok (.goto (-46), 3) := by decide +kernel
theorem dX6_advance_69 : decode cX6_advance 69 = .ok (.aload_n 0, 1) := by decide +kernel
theorem dX6_advance_70 : decode cX6_advance 70 = .ok (.lconst 0, 1) := by decide +kernel
theorem dX6_advance_71 : decode cX6_advance 71 = .ok (.putfield 44, 3) := by decide +kernel
theorem dX6_advance_74 : decode cX6_advance 74 = .ok (.aload_n 0, 1) := by decide +kernel
theorem dX6_advance_75 : decode cX6_advance 75 = .ok (.getfield 22, 3) := by decide +kernel
theorem dX6_advance_78 : decode cX6_advance 78 = .ok (.iload_n 1, 1) := by decide +kernel
theorem dX6_advance_79 : decode cX6_advance 79 = .ok (.if_icmp .lt 29, 3) := by decide +kernel
theorem dX6_advance_82 : decode cX6_advance 82 = .ok (.aload_n 0, 1) := by decide +kernel
theorem dX6_advance_83 : decode cX6_advance 83 = .ok (.iload_n 1, 1) := by decide +kernel
theorem dX6_advance_84 : decode cX6_advance 84 = .ok (.putfield 48, 3) := by decide +kernel
theorem dX6_advance_87 : decode cX6_advance 87 = .ok (.aload_n 0, 1) := by decide +kernel
theorem dX6_advance_88 : decode cX6_advance 88 = .ok (.aload_n 0, 1) := by decide +kernel
theorem dX6_advance_89 : decode cX6_advance 89 = .ok (.getfield 15, 3) := by decide +kernel
theorem dX6_advance_92 : decode cX6_advance 92 = .ok (.aload_n 0, 1) := by decide +kernel
theorem dX6_advance_93 : decode cX6_advance 93 = .ok (.getfield 19, 3) := by decide +kernel
theorem dX6_advance_96 : decode cX6_advance 96 = .ok (.if_icmp .le 7, 3) := by decide +kernel
theorem dX6_advance_99 : decode cX6_advance 99 = .ok (.iconst 0, 1) := by decide +kernel
theorem dX6_advance_100 : decode cX6_advance 100 = .ok (.goto 4, 3) := by decide +kernel
theorem dX6_advance_103 : decode cX6_advance 103 = .ok (.iconst 1, 1) := by decide +kernel
theorem dX6_advance_104 : decode cX6_advance 104 = .ok (.putfield 51, 3) := by decide +kernel
theorem dX6_advance_107 : decode cX6_advance 107 = .ok (.return_, 1) := by decide +kernel
theorem dX6_advance_108 : decode cX6_advance 108 = .ok (.aload_n 0, 1) := by decide +kernel
theorem dX6_advance_109 : decode cX6_advance 109 = .ok (.aload_n 0, 1) := by decide +kernel
theorem dX6_advance_110 : decode cX6_advance 110 = .ok (.getfield 22, 3) := by decide +kernel
theorem dX6_advance_113 : decode cX6_advance 113 = .ok (.putfield 48, 3) := by decide +kernel
theorem dX6_advance_116 : decode cX6_advance 116 = .ok (.aload_n 0, 1) := by decide +kernel
theorem dX6_advance_117 : decode cX6_advance 117 = .ok (.invokevirtual 54, 3) := by decide +kernel
theorem dX6_advance_120 : decode cX6_advance 120 = .ok (.aload_n 0, 1) := by decide +kernel
theorem dX6_advance_121 : decode cX6_advance 121 = .ok (.getfield 22, 3) := by decide +kernel
theorem dX6_advance_124 : decode cX6_advance 124 = .ok (.aload_n 0, 1) := by decide +kernel
theorem dX6_advance_125 : decode cX6_advance 125 = .ok (.getfield 48, 3) := by decide +kernel
theorem dX6_advance_128 : decode cX6_advance 128 = .ok (.if_icmp .ne 45, 3) := by decide +kernel
theorem dX6_advance_131 : decode cX6_advance 131 = .ok (.aload_n 0, 1) := by decide +kernel
theorem dX6_advance_132 : decode cX6_advance 132 = .ok (.aload_n 0, 1) := by decide +kernel
theorem dX6_advance_133 : decode cX6_advance 133 = .ok (.getfield 9, 3) := by decide +kernel
theorem dX6_advance_136 : decode cX6_advance 136 = .ok (.aload_n 0, 1) := by decide +kernel
theorem dX6_advance_137 : decode cX6_advance 137 = .ok (.getfield 48, 3) := by decide +kernel
theorem dX6_advance_140 : decode cX6_advance 140 = .ok (.iaload, 1) := by decide +kernel
theorem dX6_advance_141 : decode cX6_advance 141 = .ok (.invokestatic 57, 3) := by decide +kernel
theorem dX6_advance_144 : decode cX6_advance 144 = .ok (.ifCond .eq 15, 3) := by decide +kernel
theorem dX6_advance_147 : decode cX6_advance 147 = .ok (.aload_n 0, 1) := by decide +kernel
theorem dX6_advance_148 : decode cX6_advance 148 = .ok (.getfield 9, 3) := by decide +kernel
theorem dX6_advance_151 : decode cX6_advance 151 = .ok (.aload_n 0, 1) := by decide +kernel
theorem dX6_advance_152 : decode cX6_advance 152 = .ok (.getfield 48, 3) := by decide +kernel
theorem dX6_advance_155 : decode cX6_advance 155 = .ok (.iaload, 1) := by decide +kernel
theorem dX6_advance_156 : decode cX6_advance 156 = .ok (.goto 4, 3) := by decide +kernel
theorem dX6_advance_159 : decode cX6_advance 159 = .ok (.iconst 0, 1) := by decide +kernel
theorem dX6_advance_160 : decode cX6_advance 160 = .ok (.putfield 51, 3) := by decide +kernel
theorem dX6_advance_163 : decode cX6_advance 163 = .ok (.aload_n 0, 1) := by decide +kernel
theorem dX6_advance_164 : decode cX6_advance 164 = .ok (.dup, 1) := by decide +kernel
theorem dX6_advance_165 : decode cX6_advance 165 = .ok (.getfield 22, 3) := by decide +kernel
theorem dX6_advance_168 : decode cX6_advance 168 = .ok (.iconst 1, 1) := by decide +kernel
theorem dX6_advance_169 : decode cX6_advance 169 = .ok (.iadd, 1) := by decide +kernel
theorem dX6_advance_170 : decode cX6_advance 170 = .ok (.putfield 22, 3) := by decide +kernel
theorem dX6_advance_173 : decode cX6_advance 173 = .ok (.return_, 1) := by decide +kernel
set_option maxRecDepth 20000 in
theorem ggX6_advance_X6_readRun : GoodIn wsX6_advance wsX6_readRun := goodIn_r _ [21, 22, 7, 1, 8, 9, 23, 11, 27, 28, 29, 30, 31, 32, 33, 34, 35, 36] rfl (by decide +kernel)
set_option maxRecDepth 20000 in
theorem gX6_advance_X6_readRun : GoodIn wsX6_advance (wsV RX6 54 RX6 yX6_readRun wsX6_readRun) := goodIn_app (goodIn_of _ (by decide +kernel)) ggX6_advance_X6_readRun
set_option maxRecDepth 20000 in
theorem ggX6_advance_X6_isSign : GoodIn wsX6_advance wsX6_isSign := goodIn_r _ [26] rfl (by decide +kernel)
set_option maxRecDepth 20000 in
theorem gX6_advance_X6_isSign : GoodIn wsX6_advance (va_wsS RX6 57 yX6_isSign wsX6_isSign) := goodIn_app (goodIn_of _ (by decide +kernel)) ggX6_advance_X6_isSign
set_option maxHeartbeats 4000000 in
set_option maxRecDepth 100000 in
theorem e_X6_advance (l : Launch) (D : va_G) (ca : Nat → ClassId) (sz : Nat) (h0 : Nat) (h0_bytes : Nat) (h0_length : Int32) (h0_faultKind : Int32) (h0_faultAt : Int32) (h0_letters : Int64) (h0_mostBytes : Int32) (h0_behind : Int32) (h0_at : Int32) (h0_kind : Int32) (h0_number : Int32) (F_h0_bytes : Nat → Int32) (i_h0_length : rg 0 940 h0_length) (i_h0_faultKind : rg 0 4 h0_faultKind) (i_h0_behind : rg 0 940 h0_behind) (s_h0_bytes_0 : sg 0 940 0 255 F_h0_bytes) : oMet l yX6_advance wsX6_advance ({ frames := 1, cells := 0, slots := 0, locals := 23 } : Room) [.ref h0] D ca sz [(h0, .inr (6, [.ref h0_bytes, .int h0_length, .int h0_faultKind, .int h0_faultAt, .long h0_letters, .int h0_mostBytes, .int h0_behind, .int h0_at, .int h0_kind, .int h0_number])), (aI ca h0_bytes 940 F_h0_bytes)] (oQv D (fun (u : Int64 × Int32 × Int32 × Int32 × Int32) => (rg 0 940 u.2.1) ∧ (rl 0 h0_behind u.2.1) ∧ ((u.1, u.2.1, u.2.2.1, u.2.2.2.1, u.2.2.2.2) = y_X6_advance h0_length h0_faultKind h0_letters h0_mostBytes h0_behind h0_at h0_kind h0_number F_h0_bytes)) (fun (u : Int64 × Int32 × Int32 × Int32 × Int32) => [(h0, .inr (6, [.ref h0_bytes, .int h0_length, .int h0_faultKind, .int h0_faultAt, .long u.1, .int h0_mostBytes, .int u.2.1, .int u.2.2.1, .int u.2.2.2.1, .int u.2.2.2.2])), (aI ca h0_bytes 940 F_h0_bytes)])) 0 0 := by
  refine oM (cc := cX6_advance) (maxL := 2) (ret := none) (by decide) rfl (Nat.le_of_ble_eq_true rfl) [(0, .ref h0)] rfl ?_
  intro p e s m below meth c A H locs ls hx hb hr hml hts hown hlocks hin hK hP hD hA hS hl
  have hown : s.vm.findClass RX6 = some m.cls := hown
  have hY := y_X6_advance_s h0_length h0_faultKind h0_letters h0_mostBytes h0_behind h0_at h0_kind h0_number F_h0_bytes
  have k1 := hts (.fieldLink RX6 51 "LidCourt$Reader" "kind" "I") (by decide +kernel)
  have k2 : ∀ w ∈ wsX60, w ∈ wsX6_advance := fun _ h => List.mem_cons_of_mem _ (List.mem_append_right _ h)
  have k3 := hts (.fieldLink RX6 22 "LidCourt$Reader" "behind" "I") (by decide +kernel)
  have k4 := hts (.fieldLink RX6 44 "LidCourt$Reader" "letters" "J") (by decide +kernel)
  have k5 := hts (.fieldLink RX6 48 "LidCourt$Reader" "at" "I") (by decide +kernel)
  have k6 := hts (.fieldLink RX6 9 "LidCourt$Reader" "bytes" "[I") (by decide +kernel)
  have k7 := hts (.fieldLink RX6 15 "LidCourt$Reader" "length" "I") (by decide +kernel)
  have k8 := hts (.fieldLink RX6 19 "LidCourt$Reader" "mostBytes" "I") (by decide +kernel)
  have k9 := hts (.methodLink RX6 38 Lib.Math.min.name) (by decide +kernel)
  have k10 := hts (.static Lib.Math.min.name) (by decide +kernel)
  have k11 := hts (.initialized "java/lang/Math") (by decide +kernel)
  have k12 := hts (.code Lib.Math.min.name Lib.Math.min.code 2 (some .int)) (by decide +kernel)
  have J160_118 : ∀ (y160_0 : Int32) (y160_1 : Int64) (y160_2 : Int32) (y160_3 : Int32) (y160_4 : Int32) (y160_5 : Int32), rg 0 62 y160_0 → rg 0 939 y160_2 → rl 0 h0_behind y160_2 → rg 0 939 y160_3 → rl 0 h0_behind y160_3 → rg 0 3 y160_4 → rg 0 0 h0_faultKind → y_X6_advance h0_length h0_faultKind h0_letters h0_mostBytes h0_behind h0_at h0_kind h0_number F_h0_bytes = y_X6_advance_160 y160_0 y160_1 y160_2 y160_3 y160_5 → ∀ (H : Heap) (locs : List Loc) (ls : Array Slot), va_P D vwCl [(h0, .inr (6, [.ref h0_bytes, .int h0_length, .int h0_faultKind, .int h0_faultAt, .long y160_1, .int h0_mostBytes, .int y160_2, .int y160_3, .int y160_4, .int y160_5])), (aI ca h0_bytes 940 F_h0_bytes)] H → va_D A [(h0, .inr (6, [.ref h0_bytes, .int h0_length, .int h0_faultKind, .int h0_faultAt, .long y160_1, .int h0_mostBytes, .int y160_2, .int y160_3, .int y160_4, .int y160_5])), (aI ca h0_bytes 940 F_h0_bytes)] → va_S A s.heap H locs → lv_has ls 2 [(0, .ref h0)] → W p l e ({ frames := 1, cells := 0, slots := 0, locals := 23 } : Room) s m ([.ref h0] : List Value).toArray below meth c H locs 0 0 (MQ below ((oQv D (fun (u : Int64 × Int32 × Int32 × Int32 × Int32) => (rg 0 940 u.2.1) ∧ (rl 0 h0_behind u.2.1) ∧ ((u.1, u.2.1, u.2.2.1, u.2.2.2.1, u.2.2.2.2) = y_X6_advance h0_length h0_faultKind h0_letters h0_mostBytes h0_behind h0_at h0_kind h0_number F_h0_bytes)) (fun (u : Int64 × Int32 × Int32 × Int32 × Int32) => [(h0, .inr (6, [.ref h0_bytes, .int h0_length, .int h0_faultKind, .int h0_faultAt, .long u.1, .int h0_mostBytes, .int u.2.1, .int u.2.2.1, .int u.2.2.2.1, .int u.2.2.2.2])), (aI ca h0_bytes 940 F_h0_bytes)])) A) ([.ref h0] : List Value).toArray s 0 0 A) (F0 m 160 ls [.int y160_0, .ref h0]) := by
    intro y160_0 y160_1 y160_2 y160_3 y160_4 y160_5 hy160_0 hy160_2 py160_2_h0_behind hy160_3 py160_3_h0_behind hy160_4 t160_h0_faultKind hY H locs ls hP hD hS hl
    have hY := hY.trans (y_X6_advance_160_s y160_0 y160_1 y160_2 y160_3 y160_5)
    refine va_put (D := D) (ci := 6) (v := .int y160_0) (ty := .int) (C := RX6) (T := TX6) (N := 10) hx hb hts k2 tyX6 tyX6_ok nmX6 hown hK.1 hP hD hS 0 rfl rfl 8 (by decide) k1 (fun _ h9 => h9) rfl (by decide +kernel) rfl rfl (Nat.le_of_ble_eq_true rfl) dX6_advance_160 (fun H locs hP hD hS => ?_)
    have hP : va_P D vwCl [(h0, .inr (6, [.ref h0_bytes, .int h0_length, .int h0_faultKind, .int h0_faultAt, .long y160_1, .int h0_mostBytes, .int y160_2, .int y160_3, .int y160_0, .int y160_5])), (aI ca h0_bytes 940 F_h0_bytes)] H := hP
    have hD : va_D A [(h0, .inr (6, [.ref h0_bytes, .int h0_length, .int h0_faultKind, .int h0_faultAt, .long y160_1, .int h0_mostBytes, .int y160_2, .int y160_3, .int y160_0, .int y160_5])), (aI ca h0_bytes 940 F_h0_bytes)] := hD
    refine lv_aload_n hx hb dX6_advance_163 rfl (lv_at hl 0 rfl) ?_
    refine lv_dup hx hb dX6_advance_164 rfl ?_
    refine va_get (D := D) (ci := 6) (v := .int y160_2) (C := RX6) (T := TX6) (N := 10) hx hb hts k2 hown hK.1 hP 0 rfl rfl 6 (by decide) k3 (fun _ h9 => h9) rfl dX6_advance_165 ?_
    refine lv_iconst (v := 1) hx hb dX6_advance_168 (by decide) ?_
    refine lv_iadd hx hb dX6_advance_169 ?_
    refine lv_topi (fun x_119 ex_119 => ?_)
    have hY := hY.trans (lt1_e ex_119)
    have h_120 : rg 1 940 x_119 := by rw [ex_119]; exact rg_add hy160_2 (⟨by decide, by decide⟩ : rg 1 1 (1 : Int32)) (by decide) (by decide) (by decide) (by decide)
    have l_121 : lq x_119.toInt (y160_2.toInt + 1) := lqm (by rw [ex_119]; have q := tadd hy160_2 (⟨by decide, by decide⟩ : rg 1 1 (1 : Int32)) (by decide) (by decide); have r1 := lqe (lqm (by decide) : lq (1 : Int32).toInt 1); omega)
    refine va_put (D := D) (ci := 6) (v := .int x_119) (ty := .int) (C := RX6) (T := TX6) (N := 10) hx hb hts k2 tyX6 tyX6_ok nmX6 hown hK.1 hP hD hS 0 rfl rfl 6 (by decide) k3 (fun _ h9 => h9) rfl (by decide +kernel) rfl rfl (Nat.le_of_ble_eq_true rfl) dX6_advance_170 (fun H locs hP hD hS => ?_)
    have hP : va_P D vwCl [(h0, .inr (6, [.ref h0_bytes, .int h0_length, .int h0_faultKind, .int h0_faultAt, .long y160_1, .int h0_mostBytes, .int x_119, .int y160_3, .int y160_0, .int y160_5])), (aI ca h0_bytes 940 F_h0_bytes)] H := hP
    have hD : va_D A [(h0, .inr (6, [.ref h0_bytes, .int h0_length, .int h0_faultKind, .int h0_faultAt, .long y160_1, .int h0_mostBytes, .int x_119, .int y160_3, .int y160_0, .int y160_5])), (aI ca h0_bytes 940 F_h0_bytes)] := hD
    exact oE_v hx hb hr hlocks hP hD hS (y160_1, x_119, y160_3, y160_0, y160_5) [0, 1] rfl (by decide) ⟨(rgw (lo := 0) (hi := 940) h_120 (by decide) (by decide)), (show rl 0 h0_behind x_119 from rlm (by have q0 := lqe l_121; have q1 := rle py160_2_h0_behind; omega)), hY.symm⟩ (Nat.le_of_ble_eq_true rfl) (Nat.le_of_ble_eq_true rfl) dX6_advance_173
  have J104_122 : ∀ (y104_0 : Int32) (y104_1 : Int32) (y104_2 : Int32), rg 0 1 y104_0 → rg 0 940 y104_1 → rl 0 h0_behind y104_1 → rg (-2147483648) 940 y104_2 → rl 0 y104_2 h0_length → rl 0 y104_2 h0_mostBytes → rg 0 0 h0_faultKind → y_X6_advance h0_length h0_faultKind h0_letters h0_mostBytes h0_behind h0_at h0_kind h0_number F_h0_bytes = y_X6_advance_104 h0_number y104_0 y104_1 y104_2 → ∀ (H : Heap) (locs : List Loc) (ls : Array Slot), va_P D vwCl [(h0, .inr (6, [.ref h0_bytes, .int h0_length, .int h0_faultKind, .int h0_faultAt, .long 0, .int h0_mostBytes, .int y104_1, .int y104_2, .int h0_kind, .int h0_number])), (aI ca h0_bytes 940 F_h0_bytes)] H → va_D A [(h0, .inr (6, [.ref h0_bytes, .int h0_length, .int h0_faultKind, .int h0_faultAt, .long 0, .int h0_mostBytes, .int y104_1, .int y104_2, .int h0_kind, .int h0_number])), (aI ca h0_bytes 940 F_h0_bytes)] → va_S A s.heap H locs → lv_has ls 2 [] → W p l e ({ frames := 1, cells := 0, slots := 0, locals := 23 } : Room) s m ([.ref h0] : List Value).toArray below meth c H locs 0 0 (MQ below ((oQv D (fun (u : Int64 × Int32 × Int32 × Int32 × Int32) => (rg 0 940 u.2.1) ∧ (rl 0 h0_behind u.2.1) ∧ ((u.1, u.2.1, u.2.2.1, u.2.2.2.1, u.2.2.2.2) = y_X6_advance h0_length h0_faultKind h0_letters h0_mostBytes h0_behind h0_at h0_kind h0_number F_h0_bytes)) (fun (u : Int64 × Int32 × Int32 × Int32 × Int32) => [(h0, .inr (6, [.ref h0_bytes, .int h0_length, .int h0_faultKind, .int h0_faultAt, .long u.1, .int h0_mostBytes, .int u.2.1, .int u.2.2.1, .int u.2.2.2.1, .int u.2.2.2.2])), (aI ca h0_bytes 940 F_h0_bytes)])) A) ([.ref h0] : List Value).toArray s 0 0 A) (F0 m 104 ls [.int y104_0, .ref h0]) := by
    intro y104_0 y104_1 y104_2 hy104_0 hy104_1 py104_1_h0_behind hy104_2 qy104_2_h0_length qy104_2_h0_mostBytes t104_h0_faultKind hY H locs ls hP hD hS hl
    have hY := hY.trans (y_X6_advance_104_s h0_number y104_0 y104_1 y104_2)
    refine va_put (D := D) (ci := 6) (v := .int y104_0) (ty := .int) (C := RX6) (T := TX6) (N := 10) hx hb hts k2 tyX6 tyX6_ok nmX6 hown hK.1 hP hD hS 0 rfl rfl 8 (by decide) k1 (fun _ h9 => h9) rfl (by decide +kernel) rfl rfl (Nat.le_of_ble_eq_true rfl) dX6_advance_104 (fun H locs hP hD hS => ?_)
    have hP : va_P D vwCl [(h0, .inr (6, [.ref h0_bytes, .int h0_length, .int h0_faultKind, .int h0_faultAt, .long 0, .int h0_mostBytes, .int y104_1, .int y104_2, .int y104_0, .int h0_number])), (aI ca h0_bytes 940 F_h0_bytes)] H := hP
    have hD : va_D A [(h0, .inr (6, [.ref h0_bytes, .int h0_length, .int h0_faultKind, .int h0_faultAt, .long 0, .int h0_mostBytes, .int y104_1, .int y104_2, .int y104_0, .int h0_number])), (aI ca h0_bytes 940 F_h0_bytes)] := hD
    exact oE_v hx hb hr hlocks hP hD hS (0, y104_1, y104_2, y104_0, h0_number) [0, 1] rfl (by decide) ⟨hy104_1, (show rl 0 h0_behind y104_1 from rlm (by have q0 := rle py104_1_h0_behind; omega)), hY.symm⟩ (Nat.le_of_ble_eq_true rfl) (Nat.le_of_ble_eq_true rfl) dX6_advance_107
  have J69_123 : ∀ (y69_0 : Int32) (y69_1 : Int32), rg (-2147483648) 940 y69_0 → rl 0 y69_0 h0_length → rl 0 y69_0 h0_mostBytes → rg 0 940 y69_1 → rl 0 h0_behind y69_1 → rg 0 0 h0_faultKind → y_X6_advance h0_length h0_faultKind h0_letters h0_mostBytes h0_behind h0_at h0_kind h0_number F_h0_bytes = y_X6_advance_69 h0_length h0_mostBytes h0_number F_h0_bytes y69_0 y69_1 → ∀ (H : Heap) (locs : List Loc) (ls : Array Slot), va_P D vwCl [(h0, .inr (6, [.ref h0_bytes, .int h0_length, .int h0_faultKind, .int h0_faultAt, .long h0_letters, .int h0_mostBytes, .int y69_1, .int h0_at, .int h0_kind, .int h0_number])), (aI ca h0_bytes 940 F_h0_bytes)] H → va_D A [(h0, .inr (6, [.ref h0_bytes, .int h0_length, .int h0_faultKind, .int h0_faultAt, .long h0_letters, .int h0_mostBytes, .int y69_1, .int h0_at, .int h0_kind, .int h0_number])), (aI ca h0_bytes 940 F_h0_bytes)] → va_S A s.heap H locs → lv_has ls 2 [(0, .ref h0), (1, .int y69_0)] → W p l e ({ frames := 1, cells := 0, slots := 0, locals := 23 } : Room) s m ([.ref h0] : List Value).toArray below meth c H locs 0 0 (MQ below ((oQv D (fun (u : Int64 × Int32 × Int32 × Int32 × Int32) => (rg 0 940 u.2.1) ∧ (rl 0 h0_behind u.2.1) ∧ ((u.1, u.2.1, u.2.2.1, u.2.2.2.1, u.2.2.2.2) = y_X6_advance h0_length h0_faultKind h0_letters h0_mostBytes h0_behind h0_at h0_kind h0_number F_h0_bytes)) (fun (u : Int64 × Int32 × Int32 × Int32 × Int32) => [(h0, .inr (6, [.ref h0_bytes, .int h0_length, .int h0_faultKind, .int h0_faultAt, .long u.1, .int h0_mostBytes, .int u.2.1, .int u.2.2.1, .int u.2.2.2.1, .int u.2.2.2.2])), (aI ca h0_bytes 940 F_h0_bytes)])) A) ([.ref h0] : List Value).toArray s 0 0 A) (F0 m 69 ls []) := by
    intro y69_0 y69_1 hy69_0 qy69_0_h0_length qy69_0_h0_mostBytes hy69_1 py69_1_h0_behind t69_h0_faultKind hY H locs ls hP hD hS hl
    have hY := hY.trans (y_X6_advance_69_s h0_length h0_mostBytes h0_number F_h0_bytes y69_0 y69_1)
    refine lv_aload_n hx hb dX6_advance_69 rfl (lv_at hl 0 rfl) ?_
    refine lv_lconst (v := 0) hx hb dX6_advance_70 (by decide) ?_
    refine va_put (D := D) (ci := 6) (v := .long 0) (ty := .long) (C := RX6) (T := TX6) (N := 10) hx hb hts k2 tyX6 tyX6_ok nmX6 hown hK.1 hP hD hS 0 rfl rfl 4 (by decide) k4 (fun _ h9 => h9) rfl (by decide +kernel) rfl rfl (Nat.le_of_ble_eq_true rfl) dX6_advance_71 (fun H locs hP hD hS => ?_)
    have hP : va_P D vwCl [(h0, .inr (6, [.ref h0_bytes, .int h0_length, .int h0_faultKind, .int h0_faultAt, .long 0, .int h0_mostBytes, .int y69_1, .int h0_at, .int h0_kind, .int h0_number])), (aI ca h0_bytes 940 F_h0_bytes)] H := hP
    have hD : va_D A [(h0, .inr (6, [.ref h0_bytes, .int h0_length, .int h0_faultKind, .int h0_faultAt, .long 0, .int h0_mostBytes, .int y69_1, .int h0_at, .int h0_kind, .int h0_number])), (aI ca h0_bytes 940 F_h0_bytes)] := hD
    refine lv_aload_n hx hb dX6_advance_74 rfl (lv_at hl 0 rfl) ?_
    refine va_get (D := D) (ci := 6) (v := .int y69_1) (C := RX6) (T := TX6) (N := 10) hx hb hts k2 hown hK.1 hP 0 rfl rfl 6 (by decide) k3 (fun _ h9 => h9) rfl dX6_advance_75 ?_
    refine lv_iload_n hx hb dX6_advance_78 rfl (lv_at hl 1 rfl) ?_
    refine lv_icmp_lt (tgt := 108) hx hb dX6_advance_79 (by decide) (fun c_124 => ?_) (fun c_124 => ?_)
    · skip
      have hY := hY.trans (if_pos c_124)
      have o_125 : rl 1 y69_1 y69_0 := rl_lt c_124
      have h_126 : rg 0 939 y69_1 := rl_x o_125 hy69_1 hy69_0 (by decide) (by decide)
      have h_127 : rg 1 940 y69_0 := rl_y o_125 hy69_1 hy69_0 (by decide) (by decide)
      refine lv_aload_n hx hb dX6_advance_108 rfl (lv_at hl 0 rfl) ?_
      refine lv_aload_n hx hb dX6_advance_109 rfl (lv_at hl 0 rfl) ?_
      refine va_get (D := D) (ci := 6) (v := .int y69_1) (C := RX6) (T := TX6) (N := 10) hx hb hts k2 hown hK.1 hP 0 rfl rfl 6 (by decide) k3 (fun _ h9 => h9) rfl dX6_advance_110 ?_
      refine va_put (D := D) (ci := 6) (v := .int y69_1) (ty := .int) (C := RX6) (T := TX6) (N := 10) hx hb hts k2 tyX6 tyX6_ok nmX6 hown hK.1 hP hD hS 0 rfl rfl 7 (by decide) k5 (fun _ h9 => h9) rfl (by decide +kernel) rfl rfl (Nat.le_of_ble_eq_true rfl) dX6_advance_113 (fun H locs hP hD hS => ?_)
      have hP : va_P D vwCl [(h0, .inr (6, [.ref h0_bytes, .int h0_length, .int h0_faultKind, .int h0_faultAt, .long 0, .int h0_mostBytes, .int y69_1, .int y69_1, .int h0_kind, .int h0_number])), (aI ca h0_bytes 940 F_h0_bytes)] H := hP
      have hD : va_D A [(h0, .inr (6, [.ref h0_bytes, .int h0_length, .int h0_faultKind, .int h0_faultAt, .long 0, .int h0_mostBytes, .int y69_1, .int y69_1, .int h0_kind, .int h0_number])), (aI ca h0_bytes 940 F_h0_bytes)] := hD
      refine lv_aload_n hx hb dX6_advance_116 rfl (lv_at hl 0 rfl) ?_
      refine oC_v (Wc := [(h0, .inr (6, [.ref h0_bytes, .int h0_length, .int h0_faultKind, .int h0_faultAt, .long 0, .int h0_mostBytes, .int y69_1, .int y69_1, .int h0_kind, .int h0_number])), (aI ca h0_bytes 940 F_h0_bytes)]) (Wr := []) (va_runV (As := []) (rest := []) ⟨hx, hb, hml, hown, hts⟩ (e_X6_readRun l D ca H.size h0 h0_bytes h0_length h0_faultKind h0_faultAt 0 h0_mostBytes y69_1 y69_1 h0_kind h0_number F_h0_bytes i_h0_length (rgw (lo := 0) (hi := 4) t69_h0_faultKind (by decide) (by decide)) (rgw (lo := 0) (hi := 940) h_126 (by decide) (by decide)) (sg_w (a' := 0) (b' := 940) (lo' := 0) (hi' := 255) s_h0_bytes_0 (by decide) (by decide) (by decide) (by decide))) (cwV 0 hts gX6_advance_X6_readRun rfl rfl rfl (by decide +kernel) ⟨Nat.le_of_ble_eq_true rfl, Nat.le_of_ble_eq_true rfl⟩) (oPV (C := RX6) hK hP hD [0, 1] rfl (by decide) 0 rfl (ci := 6) rfl rfl) rfl rfl hl.1 rfl (lv_room (Nat.le_of_ble_eq_true rfl)) dX6_advance_117 ⟨Nat.le_of_ble_eq_true rfl, Nat.le_of_ble_eq_true rfl⟩) hP hD hS hA [0, 1] [] rfl rfl (by decide) (by decide) (fun u H locs w_129 hP hD hS => ?_)
      obtain ⟨u_130, u_131, u_132, u_133⟩ := u
      have hP : va_P D vwCl [(h0, .inr (6, [.ref h0_bytes, .int h0_length, .int h0_faultKind, .int h0_faultAt, .long u_130, .int h0_mostBytes, .int u_131, .int y69_1, .int u_132, .int u_133])), (aI ca h0_bytes 940 F_h0_bytes)] H := hP
      have hD : va_D A [(h0, .inr (6, [.ref h0_bytes, .int h0_length, .int h0_faultKind, .int h0_faultAt, .long u_130, .int h0_mostBytes, .int u_131, .int y69_1, .int u_132, .int u_133])), (aI ca h0_bytes 940 F_h0_bytes)] := hD
      try dsimp only at w_129
      obtain ⟨h_134, h_135, h_136, h_137⟩ := w_129
      have hY := hY.trans (lt4_e h_137)
      refine lv_aload_n hx hb dX6_advance_120 rfl (lv_at hl 0 rfl) ?_
      refine va_get (D := D) (ci := 6) (v := .int u_131) (C := RX6) (T := TX6) (N := 10) hx hb hts k2 hown hK.1 hP 0 rfl rfl 6 (by decide) k3 (fun _ h9 => h9) rfl dX6_advance_121 ?_
      refine lv_aload_n hx hb dX6_advance_124 rfl (lv_at hl 0 rfl) ?_
      refine va_get (D := D) (ci := 6) (v := .int y69_1) (C := RX6) (T := TX6) (N := 10) hx hb hts k2 hown hK.1 hP 0 rfl rfl 7 (by decide) k5 (fun _ h9 => h9) rfl dX6_advance_125 ?_
      refine lv_icmp_ne (tgt := 173) hx hb dX6_advance_128 (by decide) (fun c_138 => ?_) (fun c_138 => ?_)
      · skip
        have hY := hY.trans (if_neg c_138)
        exact oE_v hx hb hr hlocks hP hD hS (u_130, u_131, y69_1, u_132, u_133) [0, 1] rfl (by decide) ⟨h_134, (show rl 0 h0_behind u_131 from rlm (by have q0 := rle py69_1_h0_behind; have q1 := rle h_136; omega)), hY.symm⟩ (Nat.le_of_ble_eq_true rfl) (Nat.le_of_ble_eq_true rfl) dX6_advance_173
      · skip
        have hY := hY.trans (if_pos c_138)
        have o_139 : rl 0 u_131 y69_1 := rl_eq c_138
        have h_140 : rg 0 939 u_131 := rl_x o_139 h_134 h_126 (by decide) (by decide)
        have o_141 : rl 0 y69_1 u_131 := rl_eq c_138.symm
        refine lv_aload_n hx hb dX6_advance_131 rfl (lv_at hl 0 rfl) ?_
        refine lv_aload_n hx hb dX6_advance_132 rfl (lv_at hl 0 rfl) ?_
        refine va_get (D := D) (ci := 6) (v := .ref h0_bytes) (C := RX6) (T := TX6) (N := 10) hx hb hts k2 hown hK.1 hP 0 rfl rfl 0 (by decide) k6 (fun _ h9 => h9) rfl dX6_advance_133 ?_
        refine lv_aload_n hx hb dX6_advance_136 rfl (lv_at hl 0 rfl) ?_
        refine va_get (D := D) (ci := 6) (v := .int y69_1) (C := RX6) (T := TX6) (N := 10) hx hb hts k2 hown hK.1 hP 0 rfl rfl 7 (by decide) k5 (fun _ h9 => h9) rfl dX6_advance_137 ?_
        refine va_iald hx hb hK.1 hP 1 0 rfl rfl (rg_in h_126 (by decide) (by decide)) dX6_advance_140 ?_
        refine lv_topi (fun x_142 ex_142 => ?_)
        have hY := hY.trans (lt1_e ex_142)
        have h_143 : rg 0 255 x_142 := by rw [ex_142]; exact sg_at (sg_w (a' := 0) (b' := 940) (lo' := 0) (hi' := 255) s_h0_bytes_0 (by decide) (by decide) (by decide) (by decide)) h_126 (by decide) (by decide) (by decide)
        refine oC_i (Wc := []) (Wr := [(h0, .inr (6, [.ref h0_bytes, .int h0_length, .int h0_faultKind, .int h0_faultAt, .long u_130, .int h0_mostBytes, .int u_131, .int y69_1, .int u_132, .int u_133])), (aI ca h0_bytes 940 F_h0_bytes)]) (va_runS (As := [.int x_142]) (rest := [.ref h0]) ⟨hx, hb, hml, hown, hts⟩ (e_X6_isSign l D ca H.size x_142) (va_cwS 1 hts gX6_advance_X6_isSign rfl rfl rfl (by decide +kernel) ⟨Nat.le_of_ble_eq_true rfl, Nat.le_of_ble_eq_true rfl⟩) (oPS hK hP hD [] rfl (by decide)) rfl rfl hl.1 rfl (lv_room (Nat.le_of_ble_eq_true rfl)) dX6_advance_141 ⟨Nat.le_of_ble_eq_true rfl, Nat.le_of_ble_eq_true rfl⟩) hP hD hS hA [] [0, 1] rfl rfl (by decide) (by decide) (fun r_144 u H locs w_145 hP hD hS => ?_)
        obtain ⟨⟩ := u
        have hP : va_P D vwCl [(h0, .inr (6, [.ref h0_bytes, .int h0_length, .int h0_faultKind, .int h0_faultAt, .long u_130, .int h0_mostBytes, .int u_131, .int y69_1, .int u_132, .int u_133])), (aI ca h0_bytes 940 F_h0_bytes)] H := hP
        have hD : va_D A [(h0, .inr (6, [.ref h0_bytes, .int h0_length, .int h0_faultKind, .int h0_faultAt, .long u_130, .int h0_mostBytes, .int u_131, .int y69_1, .int u_132, .int u_133])), (aI ca h0_bytes 940 F_h0_bytes)] := hD
        try dsimp only at w_145
        rcases w_145 with ⟨h_146, h_147, h_148⟩ | ⟨h_149, h_150⟩
        · skip
          subst h_146
          have hY := hY.trans (lt1_e h_148)
          have hY := hY.trans (if_pos rfl)
          refine lv_if_eq (tgt := 159) hx hb dX6_advance_144 (by decide) (fun c => absurd c (by decide)) (fun _ => ?_)
          refine lv_aload_n hx hb dX6_advance_147 rfl (lv_at hl 0 rfl) ?_
          refine va_get (D := D) (ci := 6) (v := .ref h0_bytes) (C := RX6) (T := TX6) (N := 10) hx hb hts k2 hown hK.1 hP 0 rfl rfl 0 (by decide) k6 (fun _ h9 => h9) rfl dX6_advance_148 ?_
          refine lv_aload_n hx hb dX6_advance_151 rfl (lv_at hl 0 rfl) ?_
          refine va_get (D := D) (ci := 6) (v := .int y69_1) (C := RX6) (T := TX6) (N := 10) hx hb hts k2 hown hK.1 hP 0 rfl rfl 7 (by decide) k5 (fun _ h9 => h9) rfl dX6_advance_152 ?_
          refine va_iald hx hb hK.1 hP 1 0 rfl rfl (rg_in h_126 (by decide) (by decide)) dX6_advance_155 ?_
          refine oti x_142 ex_142.symm ?_
          refine lv_goto (tgt := 160) hx hb dX6_advance_156 (by decide) ?_
          exact J160_118 x_142 u_130 u_131 y69_1 u_132 u_133 (rgw (lo := 0) (hi := 62) h_147 (by decide) (by decide)) h_140 (rlm (by have q0 := rle py69_1_h0_behind; have q1 := rle h_136; omega)) h_126 (rlm (by have q0 := rle py69_1_h0_behind; omega)) h_135 t69_h0_faultKind hY H locs ls (oPsub hP [0, 1] rfl) (hD.sub [0, 1] (by decide) rfl) hS (lv_sub hl [0] rfl)
        · skip
          subst h_149
          have hY := hY.trans (lt1_e h_150)
          have hY := hY.trans (if_neg (by decide))
          refine lv_if_eq (tgt := 159) hx hb dX6_advance_144 (by decide) (fun _ => ?_) (fun c => absurd (by decide) c)
          refine lv_iconst (v := 0) hx hb dX6_advance_159 (by decide) ?_
          exact J160_118 0 u_130 u_131 y69_1 u_132 u_133 (⟨by decide, by decide⟩ : rg 0 62 (0 : Int32)) h_140 (rlm (by have q0 := rle py69_1_h0_behind; have q1 := rle h_136; omega)) h_126 (rlm (by have q0 := rle py69_1_h0_behind; omega)) h_135 t69_h0_faultKind hY H locs ls (oPsub hP [0, 1] rfl) (hD.sub [0, 1] (by decide) rfl) hS (lv_sub hl [0] rfl)
    · skip
      have hY := hY.trans (if_neg c_124)
      have o_151 : rl 0 y69_0 y69_1 := rl_nlt c_124
      refine lv_aload_n hx hb dX6_advance_82 rfl (lv_at hl 0 rfl) ?_
      refine lv_iload_n hx hb dX6_advance_83 rfl (lv_at hl 1 rfl) ?_
      refine va_put (D := D) (ci := 6) (v := .int y69_0) (ty := .int) (C := RX6) (T := TX6) (N := 10) hx hb hts k2 tyX6 tyX6_ok nmX6 hown hK.1 hP hD hS 0 rfl rfl 7 (by decide) k5 (fun _ h9 => h9) rfl (by decide +kernel) rfl rfl (Nat.le_of_ble_eq_true rfl) dX6_advance_84 (fun H locs hP hD hS => ?_)
      have hP : va_P D vwCl [(h0, .inr (6, [.ref h0_bytes, .int h0_length, .int h0_faultKind, .int h0_faultAt, .long 0, .int h0_mostBytes, .int y69_1, .int y69_0, .int h0_kind, .int h0_number])), (aI ca h0_bytes 940 F_h0_bytes)] H := hP
      have hD : va_D A [(h0, .inr (6, [.ref h0_bytes, .int h0_length, .int h0_faultKind, .int h0_faultAt, .long 0, .int h0_mostBytes, .int y69_1, .int y69_0, .int h0_kind, .int h0_number])), (aI ca h0_bytes 940 F_h0_bytes)] := hD
      refine lv_aload_n hx hb dX6_advance_87 rfl (lv_at hl 0 rfl) ?_
      refine lv_aload_n hx hb dX6_advance_88 rfl (lv_at hl 0 rfl) ?_
      refine va_get (D := D) (ci := 6) (v := .int h0_length) (C := RX6) (T := TX6) (N := 10) hx hb hts k2 hown hK.1 hP 0 rfl rfl 1 (by decide) k7 (fun _ h9 => h9) rfl dX6_advance_89 ?_
      refine lv_aload_n hx hb dX6_advance_92 rfl (lv_at hl 0 rfl) ?_
      refine va_get (D := D) (ci := 6) (v := .int h0_mostBytes) (C := RX6) (T := TX6) (N := 10) hx hb hts k2 hown hK.1 hP 0 rfl rfl 5 (by decide) k8 (fun _ h9 => h9) rfl dX6_advance_93 ?_
      refine lv_icmp_le (tgt := 103) hx hb dX6_advance_96 (by decide) (fun c_152 => ?_) (fun c_152 => ?_)
      · skip
        have hY := hY.trans (if_pos c_152)
        have o_153 : rl 0 h0_length h0_mostBytes := rl_le c_152
        have h_154 : rg 0 2147483647 h0_mostBytes := rl_y o_153 i_h0_length (rga h0_mostBytes) (by decide) (by decide)
        refine lv_iconst (v := 1) hx hb dX6_advance_103 (by decide) ?_
        exact J104_122 1 y69_1 y69_0 (⟨by decide, by decide⟩ : rg 0 1 (1 : Int32)) hy69_1 (rlm (by have q0 := rle py69_1_h0_behind; omega)) hy69_0 (rlm (by have q0 := rle qy69_0_h0_length; omega)) (rlm (by have q0 := rle qy69_0_h0_mostBytes; omega)) t69_h0_faultKind hY H locs ls (oPsub hP [0, 1] rfl) (hD.sub [0, 1] (by decide) rfl) hS (lv_sub hl [] rfl)
      · skip
        have hY := hY.trans (if_neg c_152)
        have o_155 : rl 1 h0_mostBytes h0_length := rl_nle c_152
        have h_156 : rg (-2147483648) 939 h0_mostBytes := rl_x o_155 (rga h0_mostBytes) i_h0_length (by decide) (by decide)
        refine lv_iconst (v := 0) hx hb dX6_advance_99 (by decide) ?_
        refine lv_goto (tgt := 104) hx hb dX6_advance_100 (by decide) ?_
        exact J104_122 0 y69_1 y69_0 (⟨by decide, by decide⟩ : rg 0 1 (0 : Int32)) hy69_1 (rlm (by have q0 := rle py69_1_h0_behind; omega)) hy69_0 (rlm (by have q0 := rle qy69_0_h0_mostBytes; have q1 := rle o_155; omega)) (rlm (by have q0 := rle qy69_0_h0_mostBytes; omega)) t69_h0_faultKind hY H locs ls (oPsub hP [0, 1] rfl) (hD.sub [0, 1] (by decide) rfl) hS (lv_sub hl [] rfl)
  have J20_157 : ∀ (n20 : Nat) (y20_0 : Int32) (y20_1 : Int32), True → rg (-2147483648) 940 y20_0 → rl 0 y20_0 h0_length → rl 0 y20_0 h0_mostBytes → rg 0 940 y20_1 → rl 0 h0_behind y20_1 → rg 0 0 h0_faultKind → 940 < y20_1.toInt + (n20 : Int) → y_X6_advance h0_length h0_faultKind h0_letters h0_mostBytes h0_behind h0_at h0_kind h0_number F_h0_bytes = y_X6_advance_20 h0_length h0_mostBytes h0_number F_h0_bytes n20 y20_0 y20_1 → ∀ (H : Heap) (locs : List Loc) (ls : Array Slot), va_P D vwCl [(h0, .inr (6, [.ref h0_bytes, .int h0_length, .int h0_faultKind, .int h0_faultAt, .long h0_letters, .int h0_mostBytes, .int y20_1, .int h0_at, .int h0_kind, .int h0_number])), (aI ca h0_bytes 940 F_h0_bytes)] H → va_D A [(h0, .inr (6, [.ref h0_bytes, .int h0_length, .int h0_faultKind, .int h0_faultAt, .long h0_letters, .int h0_mostBytes, .int y20_1, .int h0_at, .int h0_kind, .int h0_number])), (aI ca h0_bytes 940 F_h0_bytes)] → va_S A s.heap H locs → lv_has ls 2 [(0, .ref h0), (1, .int y20_0)] → W p l e ({ frames := 1, cells := 0, slots := 0, locals := 23 } : Room) s m ([.ref h0] : List Value).toArray below meth c H locs 0 0 (MQ below ((oQv D (fun (u : Int64 × Int32 × Int32 × Int32 × Int32) => (rg 0 940 u.2.1) ∧ (rl 0 h0_behind u.2.1) ∧ ((u.1, u.2.1, u.2.2.1, u.2.2.2.1, u.2.2.2.2) = y_X6_advance h0_length h0_faultKind h0_letters h0_mostBytes h0_behind h0_at h0_kind h0_number F_h0_bytes)) (fun (u : Int64 × Int32 × Int32 × Int32 × Int32) => [(h0, .inr (6, [.ref h0_bytes, .int h0_length, .int h0_faultKind, .int h0_faultAt, .long u.1, .int h0_mostBytes, .int u.2.1, .int u.2.2.1, .int u.2.2.2.1, .int u.2.2.2.2])), (aI ca h0_bytes 940 F_h0_bytes)])) A) ([.ref h0] : List Value).toArray s 0 0 A) (F0 m 20 ls []) := by
    intro n20
    induction n20 with
    | zero => intro y20_0 y20_1 _ hy20_0 qy20_0_h0_length qy20_0_h0_mostBytes hy20_1 py20_1_h0_behind t20_h0_faultKind hn hY; exact absurd hn (by have q9 := hy20_1.2; omega)
    | succ n20 ih20 =>
      intro y20_0 y20_1 _ hy20_0 qy20_0_h0_length qy20_0_h0_mostBytes hy20_1 py20_1_h0_behind t20_h0_faultKind hn hY H locs ls hP hD hS hl
      have hY := hY.trans (y_X6_advance_20_s h0_length h0_mostBytes h0_number F_h0_bytes _ y20_0 y20_1)
      refine lv_aload_n hx hb dX6_advance_20 rfl (lv_at hl 0 rfl) ?_
      refine va_get (D := D) (ci := 6) (v := .int y20_1) (C := RX6) (T := TX6) (N := 10) hx hb hts k2 hown hK.1 hP 0 rfl rfl 6 (by decide) k3 (fun _ h9 => h9) rfl dX6_advance_21 ?_
      refine lv_iload_n hx hb dX6_advance_24 rfl (lv_at hl 1 rfl) ?_
      refine lv_icmp_ge (tgt := 69) hx hb dX6_advance_25 (by decide) (fun c_181 => ?_) (fun c_181 => ?_)
      · skip
        have hY := hY.trans (if_pos c_181)
        have o_182 : rl 0 y20_0 y20_1 := rl_le c_181
        exact J69_123 y20_0 y20_1 hy20_0 (rlm (by have q0 := rle qy20_0_h0_length; omega)) (rlm (by have q0 := rle qy20_0_h0_mostBytes; omega)) hy20_1 (rlm (by have q0 := rle py20_1_h0_behind; omega)) t20_h0_faultKind hY H locs ls (oPsub hP [0, 1] rfl) (hD.sub [0, 1] (by decide) rfl) hS (lv_sub hl [0, 1] rfl)
      · skip
        have hY := hY.trans (if_neg c_181)
        have o_183 : rl 1 y20_1 y20_0 := rl_nle c_181
        have h_184 : rg 0 939 y20_1 := rl_x o_183 hy20_1 hy20_0 (by decide) (by decide)
        have h_185 : rg 1 940 y20_0 := rl_y o_183 hy20_1 hy20_0 (by decide) (by decide)
        refine lv_aload_n hx hb dX6_advance_28 rfl (lv_at hl 0 rfl) ?_
        refine va_get (D := D) (ci := 6) (v := .ref h0_bytes) (C := RX6) (T := TX6) (N := 10) hx hb hts k2 hown hK.1 hP 0 rfl rfl 0 (by decide) k6 (fun _ h9 => h9) rfl dX6_advance_29 ?_
        refine lv_aload_n hx hb dX6_advance_32 rfl (lv_at hl 0 rfl) ?_
        refine va_get (D := D) (ci := 6) (v := .int y20_1) (C := RX6) (T := TX6) (N := 10) hx hb hts k2 hown hK.1 hP 0 rfl rfl 6 (by decide) k3 (fun _ h9 => h9) rfl dX6_advance_33 ?_
        refine va_iald hx hb hK.1 hP 1 0 rfl rfl (rg_in h_184 (by decide) (by decide)) dX6_advance_36 ?_
        refine lv_topi (fun x_186 ex_186 => ?_)
        have hY := hY.trans (lt1_e ex_186)
        have h_187 : rg 0 255 x_186 := by rw [ex_186]; exact sg_at (sg_w (a' := 0) (b' := 940) (lo' := 0) (hi' := 255) s_h0_bytes_0 (by decide) (by decide) (by decide) (by decide)) h_184 (by decide) (by decide) (by decide)
        refine lv_bipush (v := 32) hx hb dX6_advance_37 (by decide) ?_
        refine lv_icmp_eq (tgt := 56) hx hb dX6_advance_39 (by decide) (fun c_188 => ?_) (fun c_188 => ?_)
        · skip
          have hY := hY.trans (if_pos c_188)
          have o_189 : rl 0 x_186 32 := rl_eq c_188
          have h_190 : rg 0 32 x_186 := rl_x o_189 h_187 (⟨by decide, by decide⟩ : rg 32 32 (32 : Int32)) (by decide) (by decide)
          have o_191 : rl 0 32 x_186 := rl_eq c_188.symm
          have h_192 : rg 32 32 x_186 := rl_y o_191 (⟨by decide, by decide⟩ : rg 32 32 (32 : Int32)) h_190 (by decide) (by decide)
          refine lv_aload_n hx hb dX6_advance_56 rfl (lv_at hl 0 rfl) ?_
          refine lv_dup hx hb dX6_advance_57 rfl ?_
          refine va_get (D := D) (ci := 6) (v := .int y20_1) (C := RX6) (T := TX6) (N := 10) hx hb hts k2 hown hK.1 hP 0 rfl rfl 6 (by decide) k3 (fun _ h9 => h9) rfl dX6_advance_58 ?_
          refine lv_iconst (v := 1) hx hb dX6_advance_61 (by decide) ?_
          refine lv_iadd hx hb dX6_advance_62 ?_
          refine lv_topi (fun x_193 ex_193 => ?_)
          have hY := hY.trans (lt1_e ex_193)
          have h_194 : rg 1 940 x_193 := by rw [ex_193]; exact rg_add h_184 (⟨by decide, by decide⟩ : rg 1 1 (1 : Int32)) (by decide) (by decide) (by decide) (by decide)
          have l_195 : lq x_193.toInt (y20_1.toInt + 1) := lqm (by rw [ex_193]; have q := tadd h_184 (⟨by decide, by decide⟩ : rg 1 1 (1 : Int32)) (by decide) (by decide); have r1 := lqe (lqm (by decide) : lq (1 : Int32).toInt 1); omega)
          refine va_put (D := D) (ci := 6) (v := .int x_193) (ty := .int) (C := RX6) (T := TX6) (N := 10) hx hb hts k2 tyX6 tyX6_ok nmX6 hown hK.1 hP hD hS 0 rfl rfl 6 (by decide) k3 (fun _ h9 => h9) rfl (by decide +kernel) rfl rfl (Nat.le_of_ble_eq_true rfl) dX6_advance_63 (fun H locs hP hD hS => ?_)
          have hP : va_P D vwCl [(h0, .inr (6, [.ref h0_bytes, .int h0_length, .int h0_faultKind, .int h0_faultAt, .long h0_letters, .int h0_mostBytes, .int x_193, .int h0_at, .int h0_kind, .int h0_number])), (aI ca h0_bytes 940 F_h0_bytes)] H := hP
          have hD : va_D A [(h0, .inr (6, [.ref h0_bytes, .int h0_length, .int h0_faultKind, .int h0_faultAt, .long h0_letters, .int h0_mostBytes, .int x_193, .int h0_at, .int h0_kind, .int h0_number])), (aI ca h0_bytes 940 F_h0_bytes)] := hD
          refine lv_goto (tgt := 20) hx hb dX6_advance_66 (by decide) ?_
          exact ih20 y20_0 x_193 trivial (rgw (lo := (-2147483648)) (hi := 940) h_185 (by decide) (by decide)) (rlm (by have q0 := rle qy20_0_h0_length; omega)) (rlm (by have q0 := rle qy20_0_h0_mostBytes; omega)) (rgw (lo := 0) (hi := 940) h_194 (by decide) (by decide)) (rlm (by have q0 := lqe l_195; have q1 := rle py20_1_h0_behind; omega)) t20_h0_faultKind (by have q0 := lqe l_195; omega) hY H locs ls (oPsub hP [0, 1] rfl) (hD.sub [0, 1] (by decide) rfl) hS (lv_sub hl [0, 1] rfl)
        · skip
          have hY := hY.trans (if_neg c_188)
          refine lv_aload_n hx hb dX6_advance_42 rfl (lv_at hl 0 rfl) ?_
          refine va_get (D := D) (ci := 6) (v := .ref h0_bytes) (C := RX6) (T := TX6) (N := 10) hx hb hts k2 hown hK.1 hP 0 rfl rfl 0 (by decide) k6 (fun _ h9 => h9) rfl dX6_advance_43 ?_
          refine lv_aload_n hx hb dX6_advance_46 rfl (lv_at hl 0 rfl) ?_
          refine va_get (D := D) (ci := 6) (v := .int y20_1) (C := RX6) (T := TX6) (N := 10) hx hb hts k2 hown hK.1 hP 0 rfl rfl 6 (by decide) k3 (fun _ h9 => h9) rfl dX6_advance_47 ?_
          refine va_iald hx hb hK.1 hP 1 0 rfl rfl (rg_in h_184 (by decide) (by decide)) dX6_advance_50 ?_
          refine oti x_186 ex_186.symm ?_
          refine lv_bipush (v := 10) hx hb dX6_advance_51 (by decide) ?_
          refine lv_icmp_ne (tgt := 69) hx hb dX6_advance_53 (by decide) (fun c_196 => ?_) (fun c_196 => ?_)
          · skip
            have hY := hY.trans (if_neg c_196)
            exact J69_123 y20_0 y20_1 (rgw (lo := (-2147483648)) (hi := 940) h_185 (by decide) (by decide)) (rlm (by have q0 := rle qy20_0_h0_length; omega)) (rlm (by have q0 := rle qy20_0_h0_mostBytes; omega)) (rgw (lo := 0) (hi := 940) h_184 (by decide) (by decide)) (rlm (by have q0 := rle py20_1_h0_behind; omega)) t20_h0_faultKind hY H locs ls (oPsub hP [0, 1] rfl) (hD.sub [0, 1] (by decide) rfl) hS (lv_sub hl [0, 1] rfl)
          · skip
            have hY := hY.trans (if_pos c_196)
            have o_197 : rl 0 x_186 10 := rl_eq c_196
            have h_198 : rg 0 10 x_186 := rl_x o_197 h_187 (⟨by decide, by decide⟩ : rg 10 10 (10 : Int32)) (by decide) (by decide)
            have o_199 : rl 0 10 x_186 := rl_eq c_196.symm
            have h_200 : rg 10 10 x_186 := rl_y o_199 (⟨by decide, by decide⟩ : rg 10 10 (10 : Int32)) h_198 (by decide) (by decide)
            refine lv_aload_n hx hb dX6_advance_56 rfl (lv_at hl 0 rfl) ?_
            refine lv_dup hx hb dX6_advance_57 rfl ?_
            refine va_get (D := D) (ci := 6) (v := .int y20_1) (C := RX6) (T := TX6) (N := 10) hx hb hts k2 hown hK.1 hP 0 rfl rfl 6 (by decide) k3 (fun _ h9 => h9) rfl dX6_advance_58 ?_
            refine lv_iconst (v := 1) hx hb dX6_advance_61 (by decide) ?_
            refine lv_iadd hx hb dX6_advance_62 ?_
            refine lv_topi (fun x_201 ex_201 => ?_)
            have hY := hY.trans (lt1_e ex_201)
            have h_202 : rg 1 940 x_201 := by rw [ex_201]; exact rg_add h_184 (⟨by decide, by decide⟩ : rg 1 1 (1 : Int32)) (by decide) (by decide) (by decide) (by decide)
            have l_203 : lq x_201.toInt (y20_1.toInt + 1) := lqm (by rw [ex_201]; have q := tadd h_184 (⟨by decide, by decide⟩ : rg 1 1 (1 : Int32)) (by decide) (by decide); have r1 := lqe (lqm (by decide) : lq (1 : Int32).toInt 1); omega)
            refine va_put (D := D) (ci := 6) (v := .int x_201) (ty := .int) (C := RX6) (T := TX6) (N := 10) hx hb hts k2 tyX6 tyX6_ok nmX6 hown hK.1 hP hD hS 0 rfl rfl 6 (by decide) k3 (fun _ h9 => h9) rfl (by decide +kernel) rfl rfl (Nat.le_of_ble_eq_true rfl) dX6_advance_63 (fun H locs hP hD hS => ?_)
            have hP : va_P D vwCl [(h0, .inr (6, [.ref h0_bytes, .int h0_length, .int h0_faultKind, .int h0_faultAt, .long h0_letters, .int h0_mostBytes, .int x_201, .int h0_at, .int h0_kind, .int h0_number])), (aI ca h0_bytes 940 F_h0_bytes)] H := hP
            have hD : va_D A [(h0, .inr (6, [.ref h0_bytes, .int h0_length, .int h0_faultKind, .int h0_faultAt, .long h0_letters, .int h0_mostBytes, .int x_201, .int h0_at, .int h0_kind, .int h0_number])), (aI ca h0_bytes 940 F_h0_bytes)] := hD
            refine lv_goto (tgt := 20) hx hb dX6_advance_66 (by decide) ?_
            exact ih20 y20_0 x_201 trivial (rgw (lo := (-2147483648)) (hi := 940) h_185 (by decide) (by decide)) (rlm (by have q0 := rle qy20_0_h0_length; omega)) (rlm (by have q0 := rle qy20_0_h0_mostBytes; omega)) (rgw (lo := 0) (hi := 940) h_202 (by decide) (by decide)) (rlm (by have q0 := lqe l_203; have q1 := rle py20_1_h0_behind; omega)) t20_h0_faultKind (by have q0 := lqe l_203; omega) hY H locs ls (oPsub hP [0, 1] rfl) (hD.sub [0, 1] (by decide) rfl) hS (lv_sub hl [0, 1] rfl)
  refine lv_aload_n hx hb dX6_advance_0 rfl (lv_at hl 0 rfl) ?_
  refine oC_i (Wc := [(h0, .inr (6, [.ref h0_bytes, .int h0_length, .int h0_faultKind, .int h0_faultAt, .long h0_letters, .int h0_mostBytes, .int h0_behind, .int h0_at, .int h0_kind, .int h0_number]))]) (Wr := [(aI ca h0_bytes 940 F_h0_bytes)]) (va_runV (As := []) (rest := []) ⟨hx, hb, hml, hown, hts⟩ (e_X6_isBroken l D ca H.size h0 h0_bytes h0_length h0_faultKind h0_faultAt h0_letters h0_mostBytes h0_behind h0_at h0_kind h0_number i_h0_length i_h0_faultKind i_h0_behind) (cwV 0 hts gX6_advance_X6_isBroken rfl rfl rfl (by decide +kernel) ⟨Nat.le_of_ble_eq_true rfl, Nat.le_of_ble_eq_true rfl⟩) (oPV (C := RX6) hK hP hD [0] rfl (by decide) 0 rfl (ci := 6) rfl rfl) rfl rfl hl.1 rfl (lv_room (Nat.le_of_ble_eq_true rfl)) dX6_advance_1 ⟨Nat.le_of_ble_eq_true rfl, Nat.le_of_ble_eq_true rfl⟩) hP hD hS hA [0] [1] rfl rfl (by decide) (by decide) (fun r_204 u H locs w_205 hP hD hS => ?_)
  obtain ⟨⟩ := u
  have hP : va_P D vwCl [(aI ca h0_bytes 940 F_h0_bytes), (h0, .inr (6, [.ref h0_bytes, .int h0_length, .int h0_faultKind, .int h0_faultAt, .long h0_letters, .int h0_mostBytes, .int h0_behind, .int h0_at, .int h0_kind, .int h0_number]))] H := hP
  have hD : va_D A [(aI ca h0_bytes 940 F_h0_bytes), (h0, .inr (6, [.ref h0_bytes, .int h0_length, .int h0_faultKind, .int h0_faultAt, .long h0_letters, .int h0_mostBytes, .int h0_behind, .int h0_at, .int h0_kind, .int h0_number]))] := hD
  try dsimp only at w_205
  rcases w_205 with ⟨h_206, h_207, h_208⟩ | ⟨h_209, h_210, h_211⟩
  · skip
    subst h_206
    have hY := hY.trans (lt1_e h_208)
    have hY := hY.trans (if_pos rfl)
    refine lv_if_eq (tgt := 8) hx hb dX6_advance_4 (by decide) (fun _ => ?_) (fun c => absurd (by decide) c)
    refine lv_aload_n hx hb dX6_advance_8 rfl (lv_at hl 0 rfl) ?_
    refine va_get (D := D) (ci := 6) (v := .int h0_length) (C := RX6) (T := TX6) (N := 10) hx hb hts k2 hown hK.1 hP 1 rfl rfl 1 (by decide) k7 (fun _ h9 => h9) rfl dX6_advance_9 ?_
    refine lv_aload_n hx hb dX6_advance_12 rfl (lv_at hl 0 rfl) ?_
    refine va_get (D := D) (ci := 6) (v := .int h0_mostBytes) (C := RX6) (T := TX6) (N := 10) hx hb hts k2 hown hK.1 hP 1 rfl rfl 5 (by decide) k8 (fun _ h9 => h9) rfl dX6_advance_13 ?_
    refine va_mmin hx hb (by rw [hml]; exact hl.1.symm) hown k9 k10 k11 k12 (Nat.le_of_ble_eq_true rfl) (Nat.le_of_ble_eq_true rfl) (Nat.le_of_ble_eq_true rfl) (Nat.le_of_ble_eq_true rfl) dX6_advance_16 ?_
    refine lv_topi (fun x_212 ex_212 => ?_)
    have hY := hY.trans (lt1_e ex_212)
    have h_213 : rg (-2147483648) 940 x_212 := by rw [ex_212]; exact rg_mn i_h0_length (rga h0_mostBytes) (by decide) (by decide) (by decide) (by decide)
    have o_214 : rl 0 x_212 h0_length := by rw [ex_212]; exact rl_mn1 _ _
    have o_215 : rl 0 x_212 h0_mostBytes := by rw [ex_212]; exact rl_mn2 _ _
    refine lv_istore_n (lv' := [(1, .int x_212), (0, .ref h0)]) hx hb dX6_advance_19 rfl hl (by decide) rfl (fun ls hl => ?_)
    exact J20_157 941 x_212 h0_behind trivial h_213 (rlm (by have q0 := rle o_214; omega)) (rlm (by have q0 := rle o_215; omega)) i_h0_behind (rlm (by omega)) h_207 (by have q0 := i_h0_behind.1; omega) hY H locs ls (oPsub hP [1, 0] rfl) (hD.sub [1, 0] (by decide) rfl) hS (lv_sub hl [1, 0] rfl)
  · skip
    subst h_209
    have hY := hY.trans (lt1_e h_211)
    have hY := hY.trans (if_neg (by decide))
    refine lv_if_eq (tgt := 8) hx hb dX6_advance_4 (by decide) (fun c => absurd c (by decide)) (fun _ => ?_)
    exact oE_v hx hb hr hlocks hP hD hS (h0_letters, h0_behind, h0_at, h0_kind, h0_number) [1, 0] rfl (by decide) ⟨i_h0_behind, (show rl 0 h0_behind h0_behind from rlm (by omega)), hY.symm⟩ (Nat.le_of_ble_eq_true rfl) (Nat.le_of_ble_eq_true rfl) dX6_advance_7
theorem dX6_begin_0 : decode cX6_begin 0 = .ok (.aload_n 0, 1) := by decide +kernel
theorem dX6_begin_1 : decode cX6_begin 1 = .ok (.iload_n 1, 1) := by decide +kernel
theorem dX6_begin_2 : decode cX6_begin 2 = .ok (.putfield 19, 3) := by decide +kernel
theorem dX6_begin_5 : decode cX6_begin 5 = .ok (.aload_n 0, 1) := by decide +kernel
theorem dX6_begin_6 : decode cX6_begin 6 = .ok (.iconst 0, 1) := by decide +kernel
theorem dX6_begin_7 : decode cX6_begin 7 = .ok (.putfield 22, 3) := by decide +kernel
theorem dX6_begin_10 : decode cX6_begin 10 = .ok (.aload_n 0, 1) := by decide +kernel
theorem dX6_begin_11 : decode cX6_begin 11 = .ok (.iconst 0, 1) := by decide +kernel
theorem dX6_begin_12 : decode cX6_begin 12 = .ok (.putfield 25, 3) := by decide +kernel
theorem dX6_begin_15 : decode cX6_begin 15 = .ok (.aload_n 0, 1) := by decide +kernel
theorem dX6_begin_16 : decode cX6_begin 16 = .ok (.iconst 0, 1) := by decide +kernel
theorem dX6_begin_17 : decode cX6_begin 17 = .ok (.putfield 28, 3) := by decide +kernel
theorem dX6_begin_20 : decode cX6_begin 20 = .ok (.aload_n 0, 1) := by decide +kernel
theorem dX6_begin_21 : decode cX6_begin 21 = .ok (.invokevirtual 31, 3) := by decide +kernel
theorem dX6_begin_24 : decode cX6_begin 24 = .ok (.return_, 1) := by decide +kernel
set_option maxRecDepth 20000 in
theorem ggX6_begin_X6_advance : GoodIn wsX6_begin wsX6_advance := goodIn_r _ [9, 10, 1, 11, 12, 13, 14, 2, 15, 16, 17, 18, 19, 20, 21, 8, 22, 3, 23, 24, 25, 26, 27, 28, 29, 30, 31, 32, 33, 34, 35, 36, 37, 38, 39, 40, 41] rfl (by decide +kernel)
set_option maxRecDepth 20000 in
theorem gX6_begin_X6_advance : GoodIn wsX6_begin (wsV RX6 31 RX6 yX6_advance wsX6_advance) := goodIn_app (goodIn_of _ (by decide +kernel)) ggX6_begin_X6_advance
set_option maxHeartbeats 4000000 in
set_option maxRecDepth 100000 in
theorem e_X6_begin (l : Launch) (D : va_G) (ca : Nat → ClassId) (sz : Nat) (h0 : Nat) (a1 : Int32) (h0_bytes : Nat) (h0_length : Int32) (h0_faultKind : Int32) (h0_faultAt : Int32) (h0_letters : Int64) (h0_mostBytes : Int32) (h0_behind : Int32) (h0_at : Int32) (h0_kind : Int32) (h0_number : Int32) (F_h0_bytes : Nat → Int32) (i_h0_length : rg 0 940 h0_length) (i_h0_faultKind : rg 0 4 h0_faultKind) (i_h0_behind : rg 0 940 h0_behind) (s_h0_bytes_0 : sg 0 940 0 255 F_h0_bytes) : oMet l yX6_begin wsX6_begin ({ frames := 2, cells := 0, slots := 0, locals := 44 } : Room) [.ref h0, .int a1] D ca sz [(h0, .inr (6, [.ref h0_bytes, .int h0_length, .int h0_faultKind, .int h0_faultAt, .long h0_letters, .int h0_mostBytes, .int h0_behind, .int h0_at, .int h0_kind, .int h0_number])), (aI ca h0_bytes 940 F_h0_bytes)] (oQv D (fun (u : Int64 × Int32 × Int32 × Int32 × Int32) => (rg 0 940 u.2.1) ∧ ((u.1, u.2.1, u.2.2.1, u.2.2.2.1, u.2.2.2.2) = y_X6_begin a1 h0_length h0_letters h0_at h0_kind h0_number F_h0_bytes)) (fun (u : Int64 × Int32 × Int32 × Int32 × Int32) => [(h0, .inr (6, [.ref h0_bytes, .int h0_length, .int 0, .int 0, .long u.1, .int a1, .int u.2.1, .int u.2.2.1, .int u.2.2.2.1, .int u.2.2.2.2])), (aI ca h0_bytes 940 F_h0_bytes)])) 0 0 := by
  refine oM (cc := cX6_begin) (maxL := 2) (ret := none) (by decide) rfl (Nat.le_of_ble_eq_true rfl) [(0, .ref h0), (1, .int a1)] rfl ?_
  intro p e s m below meth c A H locs ls hx hb hr hml hts hown hlocks hin hK hP hD hA hS hl
  have hown : s.vm.findClass RX6 = some m.cls := hown
  have hY := y_X6_begin_s a1 h0_length h0_letters h0_at h0_kind h0_number F_h0_bytes
  have k1 := hts (.fieldLink RX6 19 "LidCourt$Reader" "mostBytes" "I") (by decide +kernel)
  have k2 : ∀ w ∈ wsX60, w ∈ wsX6_begin := fun _ h => List.mem_cons_of_mem _ (List.mem_append_right _ h)
  have k3 := hts (.fieldLink RX6 22 "LidCourt$Reader" "behind" "I") (by decide +kernel)
  have k4 := hts (.fieldLink RX6 25 "LidCourt$Reader" "faultKind" "I") (by decide +kernel)
  have k5 := hts (.fieldLink RX6 28 "LidCourt$Reader" "faultAt" "I") (by decide +kernel)
  refine lv_aload_n hx hb dX6_begin_0 rfl (lv_at hl 0 rfl) ?_
  refine lv_iload_n hx hb dX6_begin_1 rfl (lv_at hl 1 rfl) ?_
  refine va_put (D := D) (ci := 6) (v := .int a1) (ty := .int) (C := RX6) (T := TX6) (N := 10) hx hb hts k2 tyX6 tyX6_ok nmX6 hown hK.1 hP hD hS 0 rfl rfl 5 (by decide) k1 (fun _ h9 => h9) rfl (by decide +kernel) rfl rfl (Nat.le_of_ble_eq_true rfl) dX6_begin_2 (fun H locs hP hD hS => ?_)
  have hP : va_P D vwCl [(h0, .inr (6, [.ref h0_bytes, .int h0_length, .int h0_faultKind, .int h0_faultAt, .long h0_letters, .int a1, .int h0_behind, .int h0_at, .int h0_kind, .int h0_number])), (aI ca h0_bytes 940 F_h0_bytes)] H := hP
  have hD : va_D A [(h0, .inr (6, [.ref h0_bytes, .int h0_length, .int h0_faultKind, .int h0_faultAt, .long h0_letters, .int a1, .int h0_behind, .int h0_at, .int h0_kind, .int h0_number])), (aI ca h0_bytes 940 F_h0_bytes)] := hD
  refine lv_aload_n hx hb dX6_begin_5 rfl (lv_at hl 0 rfl) ?_
  refine lv_iconst (v := 0) hx hb dX6_begin_6 (by decide) ?_
  refine va_put (D := D) (ci := 6) (v := .int 0) (ty := .int) (C := RX6) (T := TX6) (N := 10) hx hb hts k2 tyX6 tyX6_ok nmX6 hown hK.1 hP hD hS 0 rfl rfl 6 (by decide) k3 (fun _ h9 => h9) rfl (by decide +kernel) rfl rfl (Nat.le_of_ble_eq_true rfl) dX6_begin_7 (fun H locs hP hD hS => ?_)
  have hP : va_P D vwCl [(h0, .inr (6, [.ref h0_bytes, .int h0_length, .int h0_faultKind, .int h0_faultAt, .long h0_letters, .int a1, .int 0, .int h0_at, .int h0_kind, .int h0_number])), (aI ca h0_bytes 940 F_h0_bytes)] H := hP
  have hD : va_D A [(h0, .inr (6, [.ref h0_bytes, .int h0_length, .int h0_faultKind, .int h0_faultAt, .long h0_letters, .int a1, .int 0, .int h0_at, .int h0_kind, .int h0_number])), (aI ca h0_bytes 940 F_h0_bytes)] := hD
  refine lv_aload_n hx hb dX6_begin_10 rfl (lv_at hl 0 rfl) ?_
  refine lv_iconst (v := 0) hx hb dX6_begin_11 (by decide) ?_
  refine va_put (D := D) (ci := 6) (v := .int 0) (ty := .int) (C := RX6) (T := TX6) (N := 10) hx hb hts k2 tyX6 tyX6_ok nmX6 hown hK.1 hP hD hS 0 rfl rfl 2 (by decide) k4 (fun _ h9 => h9) rfl (by decide +kernel) rfl rfl (Nat.le_of_ble_eq_true rfl) dX6_begin_12 (fun H locs hP hD hS => ?_)
  have hP : va_P D vwCl [(h0, .inr (6, [.ref h0_bytes, .int h0_length, .int 0, .int h0_faultAt, .long h0_letters, .int a1, .int 0, .int h0_at, .int h0_kind, .int h0_number])), (aI ca h0_bytes 940 F_h0_bytes)] H := hP
  have hD : va_D A [(h0, .inr (6, [.ref h0_bytes, .int h0_length, .int 0, .int h0_faultAt, .long h0_letters, .int a1, .int 0, .int h0_at, .int h0_kind, .int h0_number])), (aI ca h0_bytes 940 F_h0_bytes)] := hD
  refine lv_aload_n hx hb dX6_begin_15 rfl (lv_at hl 0 rfl) ?_
  refine lv_iconst (v := 0) hx hb dX6_begin_16 (by decide) ?_
  refine va_put (D := D) (ci := 6) (v := .int 0) (ty := .int) (C := RX6) (T := TX6) (N := 10) hx hb hts k2 tyX6 tyX6_ok nmX6 hown hK.1 hP hD hS 0 rfl rfl 3 (by decide) k5 (fun _ h9 => h9) rfl (by decide +kernel) rfl rfl (Nat.le_of_ble_eq_true rfl) dX6_begin_17 (fun H locs hP hD hS => ?_)
  have hP : va_P D vwCl [(h0, .inr (6, [.ref h0_bytes, .int h0_length, .int 0, .int 0, .long h0_letters, .int a1, .int 0, .int h0_at, .int h0_kind, .int h0_number])), (aI ca h0_bytes 940 F_h0_bytes)] H := hP
  have hD : va_D A [(h0, .inr (6, [.ref h0_bytes, .int h0_length, .int 0, .int 0, .long h0_letters, .int a1, .int 0, .int h0_at, .int h0_kind, .int h0_number])), (aI ca h0_bytes 940 F_h0_bytes)] := hD
  refine lv_aload_n hx hb dX6_begin_20 rfl (lv_at hl 0 rfl) ?_
  refine oC_v (Wc := [(h0, .inr (6, [.ref h0_bytes, .int h0_length, .int 0, .int 0, .long h0_letters, .int a1, .int 0, .int h0_at, .int h0_kind, .int h0_number])), (aI ca h0_bytes 940 F_h0_bytes)]) (Wr := []) (va_runV (As := []) (rest := []) ⟨hx, hb, hml, hown, hts⟩ (e_X6_advance l D ca H.size h0 h0_bytes h0_length 0 0 h0_letters a1 0 h0_at h0_kind h0_number F_h0_bytes i_h0_length (⟨by decide, by decide⟩ : rg 0 4 (0 : Int32)) (⟨by decide, by decide⟩ : rg 0 940 (0 : Int32)) s_h0_bytes_0) (cwV 0 hts gX6_begin_X6_advance rfl rfl rfl (by decide +kernel) ⟨Nat.le_of_ble_eq_true rfl, Nat.le_of_ble_eq_true rfl⟩) (oPV (C := RX6) hK hP hD [0, 1] rfl (by decide) 0 rfl (ci := 6) rfl rfl) rfl rfl hl.1 rfl (lv_room (Nat.le_of_ble_eq_true rfl)) dX6_begin_21 ⟨Nat.le_of_ble_eq_true rfl, Nat.le_of_ble_eq_true rfl⟩) hP hD hS hA [0, 1] [] rfl rfl (by decide) (by decide) (fun u H locs w_12 hP hD hS => ?_)
  obtain ⟨u_13, u_14, u_15, u_16, u_17⟩ := u
  have hP : va_P D vwCl [(h0, .inr (6, [.ref h0_bytes, .int h0_length, .int 0, .int 0, .long u_13, .int a1, .int u_14, .int u_15, .int u_16, .int u_17])), (aI ca h0_bytes 940 F_h0_bytes)] H := hP
  have hD : va_D A [(h0, .inr (6, [.ref h0_bytes, .int h0_length, .int 0, .int 0, .long u_13, .int a1, .int u_14, .int u_15, .int u_16, .int u_17])), (aI ca h0_bytes 940 F_h0_bytes)] := hD
  try dsimp only at w_12
  obtain ⟨h_18, h_19, h_20⟩ := w_12
  have hY := hY.trans (lt5_e h_20)
  exact oE_v hx hb hr hlocks hP hD hS (u_13, u_14, u_15, u_16, u_17) [0, 1] rfl (by decide) ⟨h_18, hY.symm⟩ (Nat.le_of_ble_eq_true rfl) (Nat.le_of_ble_eq_true rfl) dX6_begin_24
theorem dX6_goesOn_0 : decode cX6_goesOn 0 = .ok (.aload_n 0, 1) := by decide +kernel
theorem dX6_goesOn_1 : decode cX6_goesOn 1 = .ok (.invokevirtual 34, 3) := by decide +kernel
theorem dX6_goesOn_4 : decode cX6_goesOn 4 = .ok (.ifCond .ne 15, 3) := by decide +kernel
theorem dX6_goesOn_7 : decode cX6_goesOn 7 = .ok (.aload_n 0, 1) := by decide +kernel
theorem dX6_goesOn_8 : decode cX6_goesOn 8 = .ok (.getfield 51, 3) := by decide +kernel
theorem dX6_goesOn_11 : decode cX6_goesOn 11 = .ok (.iconst 1, 1) := by decide +kernel
theorem dX6_goesOn_12 : decode cX6_goesOn 12 = .ok (.if_icmp .eq 7, 3) := by decide +kernel
theorem dX6_goesOn_15 : decode cX6_goesOn 15 = .ok (.iconst 1, 1) := by decide +kernel
theorem dX6_goesOn_16 : decode cX6_goesOn 16 = .ok (.goto 4, 3) := by decide +kernel
theorem dX6_goesOn_19 : decode cX6_goesOn 19 = .ok (.iconst 0, 1) := by decide +kernel
theorem dX6_goesOn_20 : decode cX6_goesOn 20 = .ok (.ireturn, 1) := by decide +kernel
set_option maxRecDepth 20000 in
theorem ggX6_goesOn_X6_isBroken : GoodIn wsX6_goesOn wsX6_isBroken := goodIn_r _ [6, 7, 8, 9, 10, 11, 12, 13, 14, 15, 16, 17] rfl (by decide +kernel)
set_option maxRecDepth 20000 in
theorem gX6_goesOn_X6_isBroken : GoodIn wsX6_goesOn (wsV RX6 34 RX6 yX6_isBroken wsX6_isBroken) := goodIn_app (goodIn_of _ (by decide +kernel)) ggX6_goesOn_X6_isBroken
set_option maxHeartbeats 4000000 in
set_option maxRecDepth 100000 in
theorem e_X6_goesOn (l : Launch) (D : va_G) (ca : Nat → ClassId) (sz : Nat) (h0 : Nat) (h0_bytes : Nat) (h0_length : Int32) (h0_faultKind : Int32) (h0_faultAt : Int32) (h0_letters : Int64) (h0_mostBytes : Int32) (h0_behind : Int32) (h0_at : Int32) (h0_kind : Int32) (h0_number : Int32) (i_h0_length : rg 0 940 h0_length) (i_h0_faultKind : rg 0 4 h0_faultKind) (i_h0_behind : rg 0 940 h0_behind) : oMet l yX6_goesOn wsX6_goesOn ({ frames := 1, cells := 0, slots := 0, locals := 20 } : Room) [.ref h0] D ca sz [(h0, .inr (6, [.ref h0_bytes, .int h0_length, .int h0_faultKind, .int h0_faultAt, .long h0_letters, .int h0_mostBytes, .int h0_behind, .int h0_at, .int h0_kind, .int h0_number]))] (oQi D (fun (r : Int32) (u : Unit) => ((r = 0) ∧ (r = y_X6_goesOn h0_faultKind h0_kind)) ∨ ((r = 1) ∧ (rg 0 0 h0_faultKind) ∧ (r = y_X6_goesOn h0_faultKind h0_kind))) (fun (u : Unit) => [(h0, .inr (6, [.ref h0_bytes, .int h0_length, .int h0_faultKind, .int h0_faultAt, .long h0_letters, .int h0_mostBytes, .int h0_behind, .int h0_at, .int h0_kind, .int h0_number]))])) 0 0 := by
  refine oM (cc := cX6_goesOn) (maxL := 1) (ret := (some .boolean)) (by decide) rfl (Nat.le_of_ble_eq_true rfl) [(0, .ref h0)] rfl ?_
  intro p e s m below meth c A H locs ls hx hb hr hml hts hown hlocks hin hK hP hD hA hS hl
  have hown : s.vm.findClass RX6 = some m.cls := hown
  have hY := y_X6_goesOn_s h0_faultKind h0_kind
  have k1 := hts (.fieldLink RX6 51 "LidCourt$Reader" "kind" "I") (by decide +kernel)
  have k2 : ∀ w ∈ wsX60, w ∈ wsX6_goesOn := fun _ h => List.mem_cons_of_mem _ (List.mem_append_right _ h)
  refine lv_aload_n hx hb dX6_goesOn_0 rfl (lv_at hl 0 rfl) ?_
  refine oC_i (Wc := [(h0, .inr (6, [.ref h0_bytes, .int h0_length, .int h0_faultKind, .int h0_faultAt, .long h0_letters, .int h0_mostBytes, .int h0_behind, .int h0_at, .int h0_kind, .int h0_number]))]) (Wr := []) (va_runV (As := []) (rest := []) ⟨hx, hb, hml, hown, hts⟩ (e_X6_isBroken l D ca H.size h0 h0_bytes h0_length h0_faultKind h0_faultAt h0_letters h0_mostBytes h0_behind h0_at h0_kind h0_number i_h0_length i_h0_faultKind i_h0_behind) (cwV 0 hts gX6_goesOn_X6_isBroken rfl rfl rfl (by decide +kernel) ⟨Nat.le_of_ble_eq_true rfl, Nat.le_of_ble_eq_true rfl⟩) (oPV (C := RX6) hK hP hD [0] rfl (by decide) 0 rfl (ci := 6) rfl rfl) rfl rfl hl.1 rfl (lv_room (Nat.le_of_ble_eq_true rfl)) dX6_goesOn_1 ⟨Nat.le_of_ble_eq_true rfl, Nat.le_of_ble_eq_true rfl⟩) hP hD hS hA [0] [] rfl rfl (by decide) (by decide) (fun r_14 u H locs w_15 hP hD hS => ?_)
  obtain ⟨⟩ := u
  have hP : va_P D vwCl [(h0, .inr (6, [.ref h0_bytes, .int h0_length, .int h0_faultKind, .int h0_faultAt, .long h0_letters, .int h0_mostBytes, .int h0_behind, .int h0_at, .int h0_kind, .int h0_number]))] H := hP
  have hD : va_D A [(h0, .inr (6, [.ref h0_bytes, .int h0_length, .int h0_faultKind, .int h0_faultAt, .long h0_letters, .int h0_mostBytes, .int h0_behind, .int h0_at, .int h0_kind, .int h0_number]))] := hD
  try dsimp only at w_15
  rcases w_15 with ⟨h_16, h_17, h_18⟩ | ⟨h_19, h_20, h_21⟩
  · skip
    subst h_16
    have hY := hY.trans (lt1_e h_18)
    have hY := hY.trans (if_pos rfl)
    refine lv_if_ne (tgt := 19) hx hb dX6_goesOn_4 (by decide) (fun c => absurd (by decide) c) (fun _ => ?_)
    refine lv_aload_n hx hb dX6_goesOn_7 rfl (lv_at hl 0 rfl) ?_
    refine va_get (D := D) (ci := 6) (v := .int h0_kind) (C := RX6) (T := TX6) (N := 10) hx hb hts k2 hown hK.1 hP 0 rfl rfl 8 (by decide) k1 (fun _ h9 => h9) rfl dX6_goesOn_8 ?_
    refine lv_iconst (v := 1) hx hb dX6_goesOn_11 (by decide) ?_
    refine lv_icmp_eq (tgt := 19) hx hb dX6_goesOn_12 (by decide) (fun c_22 => ?_) (fun c_22 => ?_)
    · skip
      have hY := hY.trans (if_pos c_22)
      have o_23 : rl 0 h0_kind 1 := rl_eq c_22
      have h_24 : rg (-2147483648) 1 h0_kind := rl_x o_23 (rga h0_kind) (⟨by decide, by decide⟩ : rg 1 1 (1 : Int32)) (by decide) (by decide)
      have o_25 : rl 0 1 h0_kind := rl_eq c_22.symm
      have h_26 : rg 1 1 h0_kind := rl_y o_25 (⟨by decide, by decide⟩ : rg 1 1 (1 : Int32)) h_24 (by decide) (by decide)
      refine lv_iconst (v := 0) hx hb dX6_goesOn_19 (by decide) ?_
      exact oE_i hx hb hr (by decide) hlocks hP hD hS () [0] rfl (by decide) (Or.inl ⟨rfl, hY.symm⟩) (Nat.le_of_ble_eq_true rfl) (Nat.le_of_ble_eq_true rfl) dX6_goesOn_20
    · skip
      have hY := hY.trans (if_neg c_22)
      refine lv_iconst (v := 1) hx hb dX6_goesOn_15 (by decide) ?_
      refine lv_goto (tgt := 20) hx hb dX6_goesOn_16 (by decide) ?_
      exact oE_i hx hb hr (by decide) hlocks hP hD hS () [0] rfl (by decide) (Or.inr (⟨rfl, h_17, hY.symm⟩)) (Nat.le_of_ble_eq_true rfl) (Nat.le_of_ble_eq_true rfl) dX6_goesOn_20
  · skip
    subst h_19
    have hY := hY.trans (lt1_e h_21)
    have hY := hY.trans (if_neg (by decide))
    refine lv_if_ne (tgt := 19) hx hb dX6_goesOn_4 (by decide) (fun _ => ?_) (fun c => absurd c (by decide))
    refine lv_iconst (v := 0) hx hb dX6_goesOn_19 (by decide) ?_
    exact oE_i hx hb hr (by decide) hlocks hP hD hS () [0] rfl (by decide) (Or.inl ⟨rfl, hY.symm⟩) (Nat.le_of_ble_eq_true rfl) (Nat.le_of_ble_eq_true rfl) dX6_goesOn_20
theorem dX6_sees_0 : decode cX6_sees 0 = .ok (.aload_n 0, 1) := by decide +kernel
theorem dX6_sees_1 : decode cX6_sees 1 = .ok (.getfield 51, 3) := by decide +kernel
theorem dX6_sees_4 : decode cX6_sees 4 = .ok (.iconst 2, 1) := by decide +kernel
theorem dX6_sees_5 : decode cX6_sees 5 = .ok (.if_icmp .ne 19, 3) := by decide +kernel
theorem dX6_sees_8 : decode cX6_sees 8 = .ok (.aload_n 0, 1) := by decide +kernel
theorem dX6_sees_9 : decode cX6_sees 9 = .ok (.getfield 44, 3) := by decide +kernel
theorem dX6_sees_12 : decode cX6_sees 12 = .ok (.aload_n 1, 1) := by decide +kernel
theorem dX6_sees_13 : decode cX6_sees 13 = .ok (.getfield 66, 3) := by decide +kernel
theorem dX6_sees_16 : decode cX6_sees 16 = .ok (.lcmp, 1) := by decide +kernel
theorem dX6_sees_17 : decode cX6_sees 17 = .ok (.ifCond .ne 7, 3) := by decide +kernel
theorem dX6_sees_20 : decode cX6_sees 20 = .ok (.iconst 1, 1) := by decide +kernel
theorem dX6_sees_21 : decode cX6_sees 21 = .ok (.goto 4, 3) := by decide +kernel
theorem dX6_sees_24 : decode cX6_sees 24 = .ok (.iconst 0, 1) := by decide +kernel
theorem dX6_sees_25 : decode cX6_sees 25 = .ok (.ireturn, 1) := by decide +kernel
set_option maxHeartbeats 4000000 in
set_option maxRecDepth 100000 in
theorem e_X6_sees (l : Launch) (D : va_G) (ca : Nat → ClassId) (ad : Nat → Nat) (wt : Nat) (sz : Nat) (h0 : Nat) (h0_bytes : Nat) (h0_length : Int32) (h0_faultKind : Int32) (h0_faultAt : Int32) (h0_letters : Int64) (h0_mostBytes : Int32) (h0_behind : Int32) (h0_at : Int32) (h0_kind : Int32) (h0_number : Int32) (kw1 : Nat) (i_h0_length : rg 0 940 h0_length) (i_h0_faultKind : rg 0 4 h0_faultKind) (i_h0_behind : rg 0 940 h0_behind) (hkw1 : kw1 < 26) : sMet l yX6_sees wsX6_sees ({ frames := 0, cells := 0, slots := 0, locals := 0 } : Room) [.ref h0, .ref (ad kw1)] D ca ad wt sz [(h0, .inr (6, [.ref h0_bytes, .int h0_length, .int h0_faultKind, .int h0_faultAt, .long h0_letters, .int h0_mostBytes, .int h0_behind, .int h0_at, .int h0_kind, .int h0_number]))] (oQi D (fun (r : Int32) (u : Unit) => ((r = 0) ∧ (r = y_X6_sees h0_letters h0_kind kw1)) ∨ ((r = 1) ∧ (rg 2 2 h0_kind) ∧ (r = y_X6_sees h0_letters h0_kind kw1))) (fun (u : Unit) => [(h0, .inr (6, [.ref h0_bytes, .int h0_length, .int h0_faultKind, .int h0_faultAt, .long h0_letters, .int h0_mostBytes, .int h0_behind, .int h0_at, .int h0_kind, .int h0_number]))])) 0 0 := by
  refine sM (cc := cX6_sees) (maxL := 2) (ret := (some .boolean)) (by decide) rfl (Nat.le_of_ble_eq_true rfl) [(0, .ref h0), (1, .ref (ad kw1))] rfl ?_
  intro p e s m below meth c A H locs ls hx hb hr hml hts hown hlocks hin hK hP hD hA hS hl hZ
  have hown : s.vm.findClass RX6 = some m.cls := hown
  have hE := hZ.2.2.2.2.2.1
  have hY := y_X6_sees_s h0_letters h0_kind kw1
  have k1 := hts (.fieldLink RX6 51 "LidCourt$Reader" "kind" "I") (by decide +kernel)
  have k2 : ∀ w ∈ wsX60, w ∈ wsX6_sees := fun _ h => List.mem_cons_of_mem _ (List.mem_append_right _ h)
  have k3 := hts (.fieldLink RX6 44 "LidCourt$Reader" "letters" "J") (by decide +kernel)
  have k4 := hts (.fieldLink RX6 66 "LidCourt$Word" "letters" "J") (by decide +kernel)
  refine lv_aload_n hx hb dX6_sees_0 rfl (lv_at hl 0 rfl) ?_
  refine va_get (D := D) (ci := 6) (v := .int h0_kind) (C := RX6) (T := TX6) (N := 10) hx hb hts k2 hown hK.1 hP 0 rfl rfl 8 (by decide) k1 (fun _ h9 => h9) rfl dX6_sees_1 ?_
  refine lv_iconst (v := 2) hx hb dX6_sees_4 (by decide) ?_
  refine lv_icmp_ne (tgt := 24) hx hb dX6_sees_5 (by decide) (fun c_15 => ?_) (fun c_15 => ?_)
  · skip
    have hY := hY.trans (if_neg c_15)
    refine lv_iconst (v := 0) hx hb dX6_sees_24 (by decide) ?_
    exact oE_i hx hb hr (by decide) hlocks hP hD hS () [0] rfl (by decide) (Or.inl ⟨rfl, hY.symm⟩) (Nat.le_of_ble_eq_true rfl) (Nat.le_of_ble_eq_true rfl) dX6_sees_25
  · skip
    have hY := hY.trans (if_pos c_15)
    have o_16 : rl 0 h0_kind 2 := rl_eq c_15
    have h_17 : rg (-2147483648) 2 h0_kind := rl_x o_16 (rga h0_kind) (⟨by decide, by decide⟩ : rg 2 2 (2 : Int32)) (by decide) (by decide)
    have o_18 : rl 0 2 h0_kind := rl_eq c_15.symm
    have h_19 : rg 2 2 h0_kind := rl_y o_18 (⟨by decide, by decide⟩ : rg 2 2 (2 : Int32)) h_17 (by decide) (by decide)
    refine lv_aload_n hx hb dX6_sees_8 rfl (lv_at hl 0 rfl) ?_
    refine va_get (D := D) (ci := 6) (v := .long h0_letters) (C := RX6) (T := TX6) (N := 10) hx hb hts k2 hown hK.1 hP 0 rfl rfl 4 (by decide) k3 (fun _ h9 => h9) rfl dX6_sees_9 ?_
    refine lv_aload_n hx hb dX6_sees_12 rfl (lv_at hl 1 rfl) ?_
    refine va_getX hx hb hE (i := kw1) hkw1 hS hown k4 (fun _ h9 => h9) dX6_sees_13 ?_
    refine lv_topl (fun x_20 ex_20 => ?_)
    have hY := hY.trans (lt1_e ex_20)
    refine W.lcmp hx hb dX6_sees_16 ?_
    refine lv_topi (fun x_21 ex_21 => ?_)
    have hY := hY.trans (lt1_e ex_21)
    refine lv_if_ne (tgt := 24) hx hb dX6_sees_17 (by decide) (fun c_22 => ?_) (fun c_22 => ?_)
    · skip
      have hY := hY.trans (if_neg c_22)
      have h_23 : ¬ (h0_letters : Int64) = x_20 := cmp_nn ex_21 c_22
      refine lv_iconst (v := 0) hx hb dX6_sees_24 (by decide) ?_
      exact oE_i hx hb hr (by decide) hlocks hP hD hS () [0] rfl (by decide) (Or.inl ⟨rfl, hY.symm⟩) (Nat.le_of_ble_eq_true rfl) (Nat.le_of_ble_eq_true rfl) dX6_sees_25
    · skip
      have hY := hY.trans (if_pos c_22)
      have o_24 : rl 0 x_21 0 := rl_eq c_22
      have h_25 : rg (-2147483648) 0 x_21 := rl_x o_24 (rga x_21) (⟨by decide, by decide⟩ : rg 0 0 (0 : Int32)) (by decide) (by decide)
      have o_26 : rl 0 0 x_21 := rl_eq c_22.symm
      have h_27 : rg 0 0 x_21 := rl_y o_26 (⟨by decide, by decide⟩ : rg 0 0 (0 : Int32)) h_25 (by decide) (by decide)
      have h_28 : (h0_letters : Int64) = x_20 := cmp_eq ex_21 c_22
      refine lv_iconst (v := 1) hx hb dX6_sees_20 (by decide) ?_
      refine lv_goto (tgt := 25) hx hb dX6_sees_21 (by decide) ?_
      exact oE_i hx hb hr (by decide) hlocks hP hD hS () [0] rfl (by decide) (Or.inr (⟨rfl, h_19, hY.symm⟩)) (Nat.le_of_ble_eq_true rfl) (Nat.le_of_ble_eq_true rfl) dX6_sees_25
theorem dX6_fail_0 : decode cX6_fail 0 = .ok (.aload_n 0, 1) := by decide +kernel
theorem dX6_fail_1 : decode cX6_fail 1 = .ok (.invokevirtual 34, 3) := by decide +kernel
theorem dX6_fail_4 : decode cX6_fail 4 = .ok (.ifCond .ne 26, 3) := by decide +kernel
theorem dX6_fail_30 : decode cX6_fail 30 = .ok (.return_, 1) := by decide +kernel
set_option maxRecDepth 20000 in
theorem ggX6_fail_X6_isBroken : GoodIn wsX6_fail wsX6_isBroken := goodIn_r _ [10, 1, 11, 12, 13, 14, 15, 16, 17, 18, 19, 20] rfl (by decide +kernel)
set_option maxRecDepth 20000 in
theorem gX6_fail_X6_isBroken : GoodIn wsX6_fail (wsV RX6 34 RX6 yX6_isBroken wsX6_isBroken) := goodIn_app (goodIn_of _ (by decide +kernel)) ggX6_fail_X6_isBroken
set_option maxHeartbeats 4000000 in
set_option maxRecDepth 100000 in
theorem e_X6_fail_br (l : Launch) (D : va_G) (ca : Nat → ClassId) (sz : Nat) (h0 : Nat) (a1 : Int32) (h0_bytes : Nat) (h0_length : Int32) (h0_faultKind : Int32) (h0_faultAt : Int32) (h0_letters : Int64) (h0_mostBytes : Int32) (h0_behind : Int32) (h0_at : Int32) (h0_kind : Int32) (h0_number : Int32) (i_a1 : rg 1 4 a1) (i_h0_length : rg 0 940 h0_length) (i_h0_faultKind : rg 1 4 h0_faultKind) (i_h0_behind : rg 0 940 h0_behind) : oMet l yX6_fail wsX6_fail ({ frames := 1, cells := 0, slots := 0, locals := 20 } : Room) [.ref h0, .int a1] D ca sz [(h0, .inr (6, [.ref h0_bytes, .int h0_length, .int h0_faultKind, .int h0_faultAt, .long h0_letters, .int h0_mostBytes, .int h0_behind, .int h0_at, .int h0_kind, .int h0_number]))] (oQv D (fun (u : Unit) => True) (fun (u : Unit) => [(h0, .inr (6, [.ref h0_bytes, .int h0_length, .int h0_faultKind, .int h0_faultAt, .long h0_letters, .int h0_mostBytes, .int h0_behind, .int h0_at, .int h0_kind, .int h0_number]))])) 0 0 := by
  refine oM (cc := cX6_fail) (maxL := 2) (ret := none) (by decide) rfl (Nat.le_of_ble_eq_true rfl) [(0, .ref h0), (1, .int a1)] rfl ?_
  intro p e s m below meth c A H locs ls hx hb hr hml hts hown hlocks hin hK hP hD hA hS hl
  have hown : s.vm.findClass RX6 = some m.cls := hown
  refine lv_aload_n hx hb dX6_fail_0 rfl (lv_at hl 0 rfl) ?_
  refine oC_i (Wc := [(h0, .inr (6, [.ref h0_bytes, .int h0_length, .int h0_faultKind, .int h0_faultAt, .long h0_letters, .int h0_mostBytes, .int h0_behind, .int h0_at, .int h0_kind, .int h0_number]))]) (Wr := []) (va_runV (As := []) (rest := []) ⟨hx, hb, hml, hown, hts⟩ (e_X6_isBroken l D ca H.size h0 h0_bytes h0_length h0_faultKind h0_faultAt h0_letters h0_mostBytes h0_behind h0_at h0_kind h0_number i_h0_length (rgw (lo := 0) (hi := 4) i_h0_faultKind (by decide) (by decide)) i_h0_behind) (cwV 0 hts gX6_fail_X6_isBroken rfl rfl rfl (by decide +kernel) ⟨Nat.le_of_ble_eq_true rfl, Nat.le_of_ble_eq_true rfl⟩) (oPV (C := RX6) hK hP hD [0] rfl (by decide) 0 rfl (ci := 6) rfl rfl) rfl rfl hl.1 rfl (lv_room (Nat.le_of_ble_eq_true rfl)) dX6_fail_1 ⟨Nat.le_of_ble_eq_true rfl, Nat.le_of_ble_eq_true rfl⟩) hP hD hS hA [0] [] rfl rfl (by decide) (by decide) (fun r_9 u H locs w_10 hP hD hS => ?_)
  obtain ⟨⟩ := u
  have hP : va_P D vwCl [(h0, .inr (6, [.ref h0_bytes, .int h0_length, .int h0_faultKind, .int h0_faultAt, .long h0_letters, .int h0_mostBytes, .int h0_behind, .int h0_at, .int h0_kind, .int h0_number]))] H := hP
  have hD : va_D A [(h0, .inr (6, [.ref h0_bytes, .int h0_length, .int h0_faultKind, .int h0_faultAt, .long h0_letters, .int h0_mostBytes, .int h0_behind, .int h0_at, .int h0_kind, .int h0_number]))] := hD
  try dsimp only at w_10
  rcases w_10 with ⟨h_11, h_12, h_13⟩ | ⟨h_14, h_15, h_16⟩
  · skip
    subst h_11
    exact (rg_no h_12 i_h0_faultKind (by decide)).elim
  · skip
    subst h_14
    refine lv_if_ne (tgt := 30) hx hb dX6_fail_4 (by decide) (fun _ => ?_) (fun c => absurd c (by decide))
    exact oE_v hx hb hr hlocks hP hD hS () [0] rfl (by decide) trivial (Nat.le_of_ble_eq_true rfl) (Nat.le_of_ble_eq_true rfl) dX6_fail_30
theorem dX6_fail_7 : decode cX6_fail 7 = .ok (.aload_n 0, 1) := by decide +kernel
theorem dX6_fail_8 : decode cX6_fail 8 = .ok (.iload_n 1, 1) := by decide +kernel
theorem dX6_fail_9 : decode cX6_fail 9 = .ok (.putfield 25, 3) := by decide +kernel
theorem dX6_fail_12 : decode cX6_fail 12 = .ok (.aload_n 0, 1) := by decide +kernel
theorem dX6_fail_13 : decode cX6_fail 13 = .ok (.aload_n 0, 1) := by decide +kernel
theorem dX6_fail_14 : decode cX6_fail 14 = .ok (.getfield 48, 3) := by decide +kernel
theorem dX6_fail_17 : decode cX6_fail 17 = .ok (.putfield 28, 3) := by decide +kernel
theorem dX6_fail_20 : decode cX6_fail 20 = .ok (.aload_n 0, 1) := by decide +kernel
theorem dX6_fail_21 : decode cX6_fail 21 = .ok (.iconst 0, 1) := by decide +kernel
theorem dX6_fail_22 : decode cX6_fail 22 = .ok (.putfield 51, 3) := by decide +kernel
theorem dX6_fail_25 : decode cX6_fail 25 = .ok (.aload_n 0, 1) := by decide +kernel
theorem dX6_fail_26 : decode cX6_fail 26 = .ok (.lconst 0, 1) := by decide +kernel
theorem dX6_fail_27 : decode cX6_fail 27 = .ok (.putfield 44, 3) := by decide +kernel
set_option maxHeartbeats 4000000 in
set_option maxRecDepth 100000 in
theorem e_X6_fail (l : Launch) (D : va_G) (ca : Nat → ClassId) (sz : Nat) (h0 : Nat) (a1 : Int32) (h0_bytes : Nat) (h0_length : Int32) (h0_faultKind : Int32) (h0_faultAt : Int32) (h0_letters : Int64) (h0_mostBytes : Int32) (h0_behind : Int32) (h0_at : Int32) (h0_kind : Int32) (h0_number : Int32) (i_a1 : rg 1 4 a1) (i_h0_length : rg 0 940 h0_length) (i_h0_faultKind : rg 0 4 h0_faultKind) (i_h0_behind : rg 0 940 h0_behind) : oMet l yX6_fail wsX6_fail ({ frames := 1, cells := 0, slots := 0, locals := 20 } : Room) [.ref h0, .int a1] D ca sz [(h0, .inr (6, [.ref h0_bytes, .int h0_length, .int h0_faultKind, .int h0_faultAt, .long h0_letters, .int h0_mostBytes, .int h0_behind, .int h0_at, .int h0_kind, .int h0_number]))] (oQv D (fun (u : Int32 × Int32 × Int64 × Int32) => (rg 1 4 u.1) ∧ (bk h0_faultKind u.1) ∧ ((u.1, u.2.1, u.2.2.1, u.2.2.2) = y_X6_fail a1 h0_faultKind h0_faultAt h0_letters h0_at h0_kind)) (fun (u : Int32 × Int32 × Int64 × Int32) => [(h0, .inr (6, [.ref h0_bytes, .int h0_length, .int u.1, .int u.2.1, .long u.2.2.1, .int h0_mostBytes, .int h0_behind, .int h0_at, .int u.2.2.2, .int h0_number]))])) 0 0 := by
  refine oM (cc := cX6_fail) (maxL := 2) (ret := none) (by decide) rfl (Nat.le_of_ble_eq_true rfl) [(0, .ref h0), (1, .int a1)] rfl ?_
  intro p e s m below meth c A H locs ls hx hb hr hml hts hown hlocks hin hK hP hD hA hS hl
  have hown : s.vm.findClass RX6 = some m.cls := hown
  have hY := y_X6_fail_s a1 h0_faultKind h0_faultAt h0_letters h0_at h0_kind
  have k1 := hts (.fieldLink RX6 25 "LidCourt$Reader" "faultKind" "I") (by decide +kernel)
  have k2 : ∀ w ∈ wsX60, w ∈ wsX6_fail := fun _ h => List.mem_cons_of_mem _ (List.mem_append_right _ h)
  have k3 := hts (.fieldLink RX6 48 "LidCourt$Reader" "at" "I") (by decide +kernel)
  have k4 := hts (.fieldLink RX6 28 "LidCourt$Reader" "faultAt" "I") (by decide +kernel)
  have k5 := hts (.fieldLink RX6 51 "LidCourt$Reader" "kind" "I") (by decide +kernel)
  have k6 := hts (.fieldLink RX6 44 "LidCourt$Reader" "letters" "J") (by decide +kernel)
  refine lv_aload_n hx hb dX6_fail_0 rfl (lv_at hl 0 rfl) ?_
  refine oC_i (Wc := [(h0, .inr (6, [.ref h0_bytes, .int h0_length, .int h0_faultKind, .int h0_faultAt, .long h0_letters, .int h0_mostBytes, .int h0_behind, .int h0_at, .int h0_kind, .int h0_number]))]) (Wr := []) (va_runV (As := []) (rest := []) ⟨hx, hb, hml, hown, hts⟩ (e_X6_isBroken l D ca H.size h0 h0_bytes h0_length h0_faultKind h0_faultAt h0_letters h0_mostBytes h0_behind h0_at h0_kind h0_number i_h0_length i_h0_faultKind i_h0_behind) (cwV 0 hts gX6_fail_X6_isBroken rfl rfl rfl (by decide +kernel) ⟨Nat.le_of_ble_eq_true rfl, Nat.le_of_ble_eq_true rfl⟩) (oPV (C := RX6) hK hP hD [0] rfl (by decide) 0 rfl (ci := 6) rfl rfl) rfl rfl hl.1 rfl (lv_room (Nat.le_of_ble_eq_true rfl)) dX6_fail_1 ⟨Nat.le_of_ble_eq_true rfl, Nat.le_of_ble_eq_true rfl⟩) hP hD hS hA [0] [] rfl rfl (by decide) (by decide) (fun r_9 u H locs w_10 hP hD hS => ?_)
  obtain ⟨⟩ := u
  have hP : va_P D vwCl [(h0, .inr (6, [.ref h0_bytes, .int h0_length, .int h0_faultKind, .int h0_faultAt, .long h0_letters, .int h0_mostBytes, .int h0_behind, .int h0_at, .int h0_kind, .int h0_number]))] H := hP
  have hD : va_D A [(h0, .inr (6, [.ref h0_bytes, .int h0_length, .int h0_faultKind, .int h0_faultAt, .long h0_letters, .int h0_mostBytes, .int h0_behind, .int h0_at, .int h0_kind, .int h0_number]))] := hD
  try dsimp only at w_10
  rcases w_10 with ⟨h_11, h_12, h_13⟩ | ⟨h_14, h_15, h_16⟩
  · skip
    subst h_11
    have hY := hY.trans (lt1_e h_13)
    have hY := hY.trans (if_pos rfl)
    refine lv_if_ne (tgt := 30) hx hb dX6_fail_4 (by decide) (fun c => absurd (by decide) c) (fun _ => ?_)
    refine lv_aload_n hx hb dX6_fail_7 rfl (lv_at hl 0 rfl) ?_
    refine lv_iload_n hx hb dX6_fail_8 rfl (lv_at hl 1 rfl) ?_
    refine va_put (D := D) (ci := 6) (v := .int a1) (ty := .int) (C := RX6) (T := TX6) (N := 10) hx hb hts k2 tyX6 tyX6_ok nmX6 hown hK.1 hP hD hS 0 rfl rfl 2 (by decide) k1 (fun _ h9 => h9) rfl (by decide +kernel) rfl rfl (Nat.le_of_ble_eq_true rfl) dX6_fail_9 (fun H locs hP hD hS => ?_)
    have hP : va_P D vwCl [(h0, .inr (6, [.ref h0_bytes, .int h0_length, .int a1, .int h0_faultAt, .long h0_letters, .int h0_mostBytes, .int h0_behind, .int h0_at, .int h0_kind, .int h0_number]))] H := hP
    have hD : va_D A [(h0, .inr (6, [.ref h0_bytes, .int h0_length, .int a1, .int h0_faultAt, .long h0_letters, .int h0_mostBytes, .int h0_behind, .int h0_at, .int h0_kind, .int h0_number]))] := hD
    refine lv_aload_n hx hb dX6_fail_12 rfl (lv_at hl 0 rfl) ?_
    refine lv_aload_n hx hb dX6_fail_13 rfl (lv_at hl 0 rfl) ?_
    refine va_get (D := D) (ci := 6) (v := .int h0_at) (C := RX6) (T := TX6) (N := 10) hx hb hts k2 hown hK.1 hP 0 rfl rfl 7 (by decide) k3 (fun _ h9 => h9) rfl dX6_fail_14 ?_
    refine va_put (D := D) (ci := 6) (v := .int h0_at) (ty := .int) (C := RX6) (T := TX6) (N := 10) hx hb hts k2 tyX6 tyX6_ok nmX6 hown hK.1 hP hD hS 0 rfl rfl 3 (by decide) k4 (fun _ h9 => h9) rfl (by decide +kernel) rfl rfl (Nat.le_of_ble_eq_true rfl) dX6_fail_17 (fun H locs hP hD hS => ?_)
    have hP : va_P D vwCl [(h0, .inr (6, [.ref h0_bytes, .int h0_length, .int a1, .int h0_at, .long h0_letters, .int h0_mostBytes, .int h0_behind, .int h0_at, .int h0_kind, .int h0_number]))] H := hP
    have hD : va_D A [(h0, .inr (6, [.ref h0_bytes, .int h0_length, .int a1, .int h0_at, .long h0_letters, .int h0_mostBytes, .int h0_behind, .int h0_at, .int h0_kind, .int h0_number]))] := hD
    refine lv_aload_n hx hb dX6_fail_20 rfl (lv_at hl 0 rfl) ?_
    refine lv_iconst (v := 0) hx hb dX6_fail_21 (by decide) ?_
    refine va_put (D := D) (ci := 6) (v := .int 0) (ty := .int) (C := RX6) (T := TX6) (N := 10) hx hb hts k2 tyX6 tyX6_ok nmX6 hown hK.1 hP hD hS 0 rfl rfl 8 (by decide) k5 (fun _ h9 => h9) rfl (by decide +kernel) rfl rfl (Nat.le_of_ble_eq_true rfl) dX6_fail_22 (fun H locs hP hD hS => ?_)
    have hP : va_P D vwCl [(h0, .inr (6, [.ref h0_bytes, .int h0_length, .int a1, .int h0_at, .long h0_letters, .int h0_mostBytes, .int h0_behind, .int h0_at, .int 0, .int h0_number]))] H := hP
    have hD : va_D A [(h0, .inr (6, [.ref h0_bytes, .int h0_length, .int a1, .int h0_at, .long h0_letters, .int h0_mostBytes, .int h0_behind, .int h0_at, .int 0, .int h0_number]))] := hD
    refine lv_aload_n hx hb dX6_fail_25 rfl (lv_at hl 0 rfl) ?_
    refine lv_lconst (v := 0) hx hb dX6_fail_26 (by decide) ?_
    refine va_put (D := D) (ci := 6) (v := .long 0) (ty := .long) (C := RX6) (T := TX6) (N := 10) hx hb hts k2 tyX6 tyX6_ok nmX6 hown hK.1 hP hD hS 0 rfl rfl 4 (by decide) k6 (fun _ h9 => h9) rfl (by decide +kernel) rfl rfl (Nat.le_of_ble_eq_true rfl) dX6_fail_27 (fun H locs hP hD hS => ?_)
    have hP : va_P D vwCl [(h0, .inr (6, [.ref h0_bytes, .int h0_length, .int a1, .int h0_at, .long 0, .int h0_mostBytes, .int h0_behind, .int h0_at, .int 0, .int h0_number]))] H := hP
    have hD : va_D A [(h0, .inr (6, [.ref h0_bytes, .int h0_length, .int a1, .int h0_at, .long 0, .int h0_mostBytes, .int h0_behind, .int h0_at, .int 0, .int h0_number]))] := hD
    exact oE_v hx hb hr hlocks hP hD hS (a1, h0_at, 0, 0) [0] rfl (by decide) ⟨i_a1, (bk_1 i_a1 (by decide)), hY.symm⟩ (Nat.le_of_ble_eq_true rfl) (Nat.le_of_ble_eq_true rfl) dX6_fail_30
  · skip
    subst h_14
    have hY := hY.trans (lt1_e h_16)
    have hY := hY.trans (if_neg (by decide))
    refine lv_if_ne (tgt := 30) hx hb dX6_fail_4 (by decide) (fun _ => ?_) (fun c => absurd c (by decide))
    exact oE_v hx hb hr hlocks hP hD hS (h0_faultKind, h0_faultAt, h0_letters, h0_kind) [0] rfl (by decide) ⟨h_15, (bk_rf _), hY.symm⟩ (Nat.le_of_ble_eq_true rfl) (Nat.le_of_ble_eq_true rfl) dX6_fail_30
theorem dX5_placeOf_0 : decode cX5_placeOf 0 = .ok (.iconst 0, 1) := by decide +kernel
theorem dX5_placeOf_1 : decode cX5_placeOf 1 = .ok (.istore 4, 2) := by decide +kernel
theorem dX5_placeOf_3 : decode cX5_placeOf 3 = .ok (.iload 4, 2) := by decide +kernel
theorem dX5_placeOf_5 : decode cX5_placeOf 5 = .ok (.iload_n 1, 1) := by decide +kernel
theorem dX5_placeOf_6 : decode cX5_placeOf 6 = .ok (.if_icmp .ge 28, 3) := by decide +kernel
theorem dX5_placeOf_9 : decode cX5_placeOf 9 = .ok (.iload 4, 2) := by decide +kernel
theorem dX5_placeOf_11 : decode cX5_placeOf 11 = .ok (.aload_n 0, 1) := by decide +kernel
theorem dX5_placeOf_12 : decode cX5_placeOf 12 = .ok (.arraylength, 1) := by decide +kernel
theorem dX5_placeOf_13 : decode cX5_placeOf 13 = .ok (.if_icmp .ge 21, 3) := by decide +kernel
theorem dX5_placeOf_16 : decode cX5_placeOf 16 = .ok (.aload_n 0, 1) := by decide +kernel
theorem dX5_placeOf_17 : decode cX5_placeOf 17 = .ok (.iload 4, 2) := by decide +kernel
theorem dX5_placeOf_19 : decode cX5_placeOf 19 = .ok (.laload, 1) := by decide +kernel
theorem dX5_placeOf_20 : decode cX5_placeOf 20 = .ok (.lload_n 2, 1) := by decide +kernel
theorem dX5_placeOf_21 : decode cX5_placeOf 21 = .ok (.lcmp, 1) := by decide +kernel
theorem dX5_placeOf_22 : decode cX5_placeOf 22 = .ok (.ifCond .ne 6, 3) := by decide +kernel
theorem dX5_placeOf_25 : decode cX5_placeOf 25 = .ok (.iload 4, 2) := by decide +kernel
theorem dX5_placeOf_27 : decode cX5_placeOf 27 = .ok (.ireturn, 1) := by decide +kernel
theorem dX5_placeOf_28 : decode cX5_placeOf 28 = .ok (.iinc 4 1, 3) := by decide +kernel
theorem dX5_placeOf_31 : decode cX5_placeOf 31 = .ok (.goto (-28), 3) := by decide +kernel
theorem dX5_placeOf_34 : decode cX5_placeOf 34 = .ok (.iconst (-1), 1) := by decide +kernel
theorem dX5_placeOf_35 : decode cX5_placeOf 35 = .ok (.ireturn, 1) := by decide +kernel
set_option maxHeartbeats 4000000 in
set_option maxRecDepth 100000 in
theorem e_X5_placeOf_10 (l : Launch) (D : va_G) (ca : Nat → ClassId) (sz : Nat) (r1 : Nat) (a2 : Int32) (a3 : Int64) (F_r1 : Nat → Int64) (i_a2 : rg 0 10 a2) : oMet l yX5_placeOf wsX5_placeOf ({ frames := 0, cells := 0, slots := 0, locals := 0 } : Room) [.ref r1, .int a2, .long a3] D ca sz [(aJ ca r1 10 F_r1)] (oQi D (fun (r : Int32) (u : Unit) => (rg (-1) 9 r) ∧ (r = y_X5_placeOf_10 a2 a3 F_r1)) (fun (u : Unit) => [(aJ ca r1 10 F_r1)])) 0 0 := by
  refine oM (cc := cX5_placeOf) (maxL := 5) (ret := (some .int)) (by decide) rfl (Nat.le_of_ble_eq_true rfl) [(0, .ref r1), (1, .int a2), (2, .long a3)] rfl ?_
  intro p e s m below meth c A H locs ls hx hb hr hml hts hown hlocks hin hK hP hD hA hS hl
  have hown : s.vm.findClass RX5 = some m.cls := hown
  have hY := y_X5_placeOf_10_s a2 a3 F_r1
  have J3_66 : ∀ (n3 : Nat) (y3_0 : Int32), True → rg 0 10 y3_0 → 10 < y3_0.toInt + (n3 : Int) → y_X5_placeOf_10 a2 a3 F_r1 = y_X5_placeOf_10_3 a2 a3 F_r1 n3 y3_0 → ∀ (H : Heap) (locs : List Loc) (ls : Array Slot), va_P D vwCl [(aJ ca r1 10 F_r1)] H → va_D A [(aJ ca r1 10 F_r1)] → va_S A s.heap H locs → lv_has ls 5 [(0, .ref r1), (1, .int a2), (2, .long a3), (4, .int y3_0)] → W p l e ({ frames := 0, cells := 0, slots := 0, locals := 0 } : Room) s m ([.ref r1, .int a2, .long a3] : List Value).toArray below meth c H locs 0 0 (MQ below ((oQi D (fun (r : Int32) (u : Unit) => (rg (-1) 9 r) ∧ (r = y_X5_placeOf_10 a2 a3 F_r1)) (fun (u : Unit) => [(aJ ca r1 10 F_r1)])) A) ([.ref r1, .int a2, .long a3] : List Value).toArray s 0 0 A) (F0 m 3 ls []) := by
    intro n3
    induction n3 with
    | zero => intro y3_0 _ hy3_0 hn hY; exact absurd hn (by have q9 := hy3_0.2; omega)
    | succ n3 ih3 =>
      intro y3_0 _ hy3_0 hn hY H locs ls hP hD hS hl
      have hY := hY.trans (y_X5_placeOf_10_3_s a2 a3 F_r1 _ y3_0)
      refine lv_iload hx hb dX5_placeOf_3 (lv_at hl 3 rfl) ?_
      refine lv_iload_n hx hb dX5_placeOf_5 rfl (lv_at hl 1 rfl) ?_
      refine lv_icmp_ge (tgt := 34) hx hb dX5_placeOf_6 (by decide) (fun c_84 => ?_) (fun c_84 => ?_)
      · skip
        have hY := hY.trans (if_pos c_84)
        have o_85 : rl 0 a2 y3_0 := rl_le c_84
        refine lv_iconst (v := (-1)) hx hb dX5_placeOf_34 (by decide) ?_
        exact oE_i hx hb hr rfl hlocks hP hD hS () [0] rfl (by decide) ⟨(⟨by decide, by decide⟩ : rg (-1) 9 ((-1) : Int32)), hY.symm⟩ (Nat.le_of_ble_eq_true rfl) (Nat.le_of_ble_eq_true rfl) dX5_placeOf_35
      · skip
        have hY := hY.trans (if_neg c_84)
        have o_86 : rl 1 y3_0 a2 := rl_nle c_84
        have h_87 : rg 0 9 y3_0 := rl_x o_86 hy3_0 i_a2 (by decide) (by decide)
        have h_88 : rg 1 10 a2 := rl_y o_86 hy3_0 i_a2 (by decide) (by decide)
        refine lv_iload hx hb dX5_placeOf_9 (lv_at hl 3 rfl) ?_
        refine lv_aload_n hx hb dX5_placeOf_11 rfl (lv_at hl 0 rfl) ?_
        refine va_alen hx hb hK.1 hP 0 1 rfl rfl (v := 10) rfl dX5_placeOf_12 ?_
        refine lv_icmp_ge (tgt := 34) hx hb dX5_placeOf_13 (by decide) (fun c => absurd c (no_le (⟨by decide, by decide⟩ : rg 10 10 (10 : Int32)) h_87 (by decide))) (fun _ => ?_)
        refine lv_aload_n hx hb dX5_placeOf_16 rfl (lv_at hl 0 rfl) ?_
        refine lv_iload hx hb dX5_placeOf_17 (lv_at hl 3 rfl) ?_
        refine va_lald hx hb hK.1 hP 0 1 rfl rfl (rg_in h_87 (by decide) (by decide)) dX5_placeOf_19 ?_
        refine lv_topl (fun x_89 ex_89 => ?_)
        have hY := hY.trans (lt1_e ex_89)
        refine lv_lload_n hx hb dX5_placeOf_20 rfl (lv_at hl 2 rfl) ?_
        refine W.lcmp hx hb dX5_placeOf_21 ?_
        refine lv_topi (fun x_90 ex_90 => ?_)
        have hY := hY.trans (lt1_e ex_90)
        refine lv_if_ne (tgt := 28) hx hb dX5_placeOf_22 (by decide) (fun c_91 => ?_) (fun c_91 => ?_)
        · skip
          have hY := hY.trans (if_neg c_91)
          have h_92 : ¬ (x_89 : Int64) = a3 := cmp_nn ex_90 c_91
          obtain ⟨x_93, ex_93⟩ : ∃ y : Int32, y = y3_0 + 1 := ⟨_, rfl⟩
          have hY := hY.trans (lt1_e ex_93)
          have h_94 : rg 1 10 x_93 := by rw [ex_93]; exact rg_add h_87 (⟨by decide, by decide⟩ : rg 1 1 (1 : Int32)) (by decide) (by decide) (by decide) (by decide)
          have l_95 : lq x_93.toInt (y3_0.toInt + 1) := lqm (by rw [ex_93]; have q := tadd h_87 (⟨by decide, by decide⟩ : rg 1 1 (1 : Int32)) (by decide) (by decide); have r1 := lqe (lqm (by decide) : lq (1 : Int32).toInt 1); omega)
          refine lv_iinc (v := x_93) (lv' := [(4, .int x_93), (0, .ref r1), (1, .int a2), (2, .long a3)]) hx hb dX5_placeOf_28 hl (k := 3) rfl (by rw [ex_93]; rfl) (by decide) rfl (fun ls hl => ?_)
          refine lv_goto (tgt := 3) hx hb dX5_placeOf_31 (by decide) ?_
          exact ih3 x_93 trivial (rgw (lo := 0) (hi := 10) h_94 (by decide) (by decide)) (by have q0 := lqe l_95; omega) hY H locs ls (oPsub hP [0] rfl) (hD.sub [0] (by decide) rfl) hS (lv_sub hl [1, 2, 3, 0] rfl)
        · skip
          have hY := hY.trans (if_pos c_91)
          have o_96 : rl 0 x_90 0 := rl_eq c_91
          have h_97 : rg (-2147483648) 0 x_90 := rl_x o_96 (rga x_90) (⟨by decide, by decide⟩ : rg 0 0 (0 : Int32)) (by decide) (by decide)
          have o_98 : rl 0 0 x_90 := rl_eq c_91.symm
          have h_99 : rg 0 0 x_90 := rl_y o_98 (⟨by decide, by decide⟩ : rg 0 0 (0 : Int32)) h_97 (by decide) (by decide)
          have h_100 : (x_89 : Int64) = a3 := cmp_eq ex_90 c_91
          refine lv_iload hx hb dX5_placeOf_25 (lv_at hl 3 rfl) ?_
          exact oE_i hx hb hr rfl hlocks hP hD hS () [0] rfl (by decide) ⟨(rgw (lo := (-1)) (hi := 9) h_87 (by decide) (by decide)), hY.symm⟩ (Nat.le_of_ble_eq_true rfl) (Nat.le_of_ble_eq_true rfl) dX5_placeOf_27
  refine lv_iconst (v := 0) hx hb dX5_placeOf_0 (by decide) ?_
  refine lv_istore (lv' := [(4, .int 0), (0, .ref r1), (1, .int a2), (2, .long a3)]) hx hb dX5_placeOf_1 hl (by decide) rfl (fun ls hl => ?_)
  exact J3_66 11 0 trivial (⟨by decide, by decide⟩ : rg 0 10 (0 : Int32)) (by have q0 := (⟨by decide, by decide⟩ : rg 0 0 (0 : Int32)).1; omega) hY H locs ls (oPsub hP [0] rfl) (hD.sub [0] (by decide) rfl) hS (lv_sub hl [1, 2, 3, 0] rfl)
set_option maxHeartbeats 4000000 in
set_option maxRecDepth 100000 in
theorem e_X5_placeOf_4 (l : Launch) (D : va_G) (ca : Nat → ClassId) (sz : Nat) (r1 : Nat) (a2 : Int32) (a3 : Int64) (F_r1 : Nat → Int64) (i_a2 : rg 0 4 a2) : oMet l yX5_placeOf wsX5_placeOf ({ frames := 0, cells := 0, slots := 0, locals := 0 } : Room) [.ref r1, .int a2, .long a3] D ca sz [(aJ ca r1 4 F_r1)] (oQi D (fun (r : Int32) (u : Unit) => (rg (-1) 3 r) ∧ (r = y_X5_placeOf_4 a2 a3 F_r1)) (fun (u : Unit) => [(aJ ca r1 4 F_r1)])) 0 0 := by
  refine oM (cc := cX5_placeOf) (maxL := 5) (ret := (some .int)) (by decide) rfl (Nat.le_of_ble_eq_true rfl) [(0, .ref r1), (1, .int a2), (2, .long a3)] rfl ?_
  intro p e s m below meth c A H locs ls hx hb hr hml hts hown hlocks hin hK hP hD hA hS hl
  have hown : s.vm.findClass RX5 = some m.cls := hown
  have hY := y_X5_placeOf_4_s a2 a3 F_r1
  have J3_66 : ∀ (n3 : Nat) (y3_0 : Int32), True → rg 0 4 y3_0 → 4 < y3_0.toInt + (n3 : Int) → y_X5_placeOf_4 a2 a3 F_r1 = y_X5_placeOf_4_3 a2 a3 F_r1 n3 y3_0 → ∀ (H : Heap) (locs : List Loc) (ls : Array Slot), va_P D vwCl [(aJ ca r1 4 F_r1)] H → va_D A [(aJ ca r1 4 F_r1)] → va_S A s.heap H locs → lv_has ls 5 [(0, .ref r1), (1, .int a2), (2, .long a3), (4, .int y3_0)] → W p l e ({ frames := 0, cells := 0, slots := 0, locals := 0 } : Room) s m ([.ref r1, .int a2, .long a3] : List Value).toArray below meth c H locs 0 0 (MQ below ((oQi D (fun (r : Int32) (u : Unit) => (rg (-1) 3 r) ∧ (r = y_X5_placeOf_4 a2 a3 F_r1)) (fun (u : Unit) => [(aJ ca r1 4 F_r1)])) A) ([.ref r1, .int a2, .long a3] : List Value).toArray s 0 0 A) (F0 m 3 ls []) := by
    intro n3
    induction n3 with
    | zero => intro y3_0 _ hy3_0 hn hY; exact absurd hn (by have q9 := hy3_0.2; omega)
    | succ n3 ih3 =>
      intro y3_0 _ hy3_0 hn hY H locs ls hP hD hS hl
      have hY := hY.trans (y_X5_placeOf_4_3_s a2 a3 F_r1 _ y3_0)
      refine lv_iload hx hb dX5_placeOf_3 (lv_at hl 3 rfl) ?_
      refine lv_iload_n hx hb dX5_placeOf_5 rfl (lv_at hl 1 rfl) ?_
      refine lv_icmp_ge (tgt := 34) hx hb dX5_placeOf_6 (by decide) (fun c_84 => ?_) (fun c_84 => ?_)
      · skip
        have hY := hY.trans (if_pos c_84)
        have o_85 : rl 0 a2 y3_0 := rl_le c_84
        refine lv_iconst (v := (-1)) hx hb dX5_placeOf_34 (by decide) ?_
        exact oE_i hx hb hr rfl hlocks hP hD hS () [0] rfl (by decide) ⟨(⟨by decide, by decide⟩ : rg (-1) 3 ((-1) : Int32)), hY.symm⟩ (Nat.le_of_ble_eq_true rfl) (Nat.le_of_ble_eq_true rfl) dX5_placeOf_35
      · skip
        have hY := hY.trans (if_neg c_84)
        have o_86 : rl 1 y3_0 a2 := rl_nle c_84
        have h_87 : rg 0 3 y3_0 := rl_x o_86 hy3_0 i_a2 (by decide) (by decide)
        have h_88 : rg 1 4 a2 := rl_y o_86 hy3_0 i_a2 (by decide) (by decide)
        refine lv_iload hx hb dX5_placeOf_9 (lv_at hl 3 rfl) ?_
        refine lv_aload_n hx hb dX5_placeOf_11 rfl (lv_at hl 0 rfl) ?_
        refine va_alen hx hb hK.1 hP 0 1 rfl rfl (v := 4) rfl dX5_placeOf_12 ?_
        refine lv_icmp_ge (tgt := 34) hx hb dX5_placeOf_13 (by decide) (fun c => absurd c (no_le (⟨by decide, by decide⟩ : rg 4 4 (4 : Int32)) h_87 (by decide))) (fun _ => ?_)
        refine lv_aload_n hx hb dX5_placeOf_16 rfl (lv_at hl 0 rfl) ?_
        refine lv_iload hx hb dX5_placeOf_17 (lv_at hl 3 rfl) ?_
        refine va_lald hx hb hK.1 hP 0 1 rfl rfl (rg_in h_87 (by decide) (by decide)) dX5_placeOf_19 ?_
        refine lv_topl (fun x_89 ex_89 => ?_)
        have hY := hY.trans (lt1_e ex_89)
        refine lv_lload_n hx hb dX5_placeOf_20 rfl (lv_at hl 2 rfl) ?_
        refine W.lcmp hx hb dX5_placeOf_21 ?_
        refine lv_topi (fun x_90 ex_90 => ?_)
        have hY := hY.trans (lt1_e ex_90)
        refine lv_if_ne (tgt := 28) hx hb dX5_placeOf_22 (by decide) (fun c_91 => ?_) (fun c_91 => ?_)
        · skip
          have hY := hY.trans (if_neg c_91)
          have h_92 : ¬ (x_89 : Int64) = a3 := cmp_nn ex_90 c_91
          obtain ⟨x_93, ex_93⟩ : ∃ y : Int32, y = y3_0 + 1 := ⟨_, rfl⟩
          have hY := hY.trans (lt1_e ex_93)
          have h_94 : rg 1 4 x_93 := by rw [ex_93]; exact rg_add h_87 (⟨by decide, by decide⟩ : rg 1 1 (1 : Int32)) (by decide) (by decide) (by decide) (by decide)
          have l_95 : lq x_93.toInt (y3_0.toInt + 1) := lqm (by rw [ex_93]; have q := tadd h_87 (⟨by decide, by decide⟩ : rg 1 1 (1 : Int32)) (by decide) (by decide); have r1 := lqe (lqm (by decide) : lq (1 : Int32).toInt 1); omega)
          refine lv_iinc (v := x_93) (lv' := [(4, .int x_93), (0, .ref r1), (1, .int a2), (2, .long a3)]) hx hb dX5_placeOf_28 hl (k := 3) rfl (by rw [ex_93]; rfl) (by decide) rfl (fun ls hl => ?_)
          refine lv_goto (tgt := 3) hx hb dX5_placeOf_31 (by decide) ?_
          exact ih3 x_93 trivial (rgw (lo := 0) (hi := 4) h_94 (by decide) (by decide)) (by have q0 := lqe l_95; omega) hY H locs ls (oPsub hP [0] rfl) (hD.sub [0] (by decide) rfl) hS (lv_sub hl [1, 2, 3, 0] rfl)
        · skip
          have hY := hY.trans (if_pos c_91)
          have o_96 : rl 0 x_90 0 := rl_eq c_91
          have h_97 : rg (-2147483648) 0 x_90 := rl_x o_96 (rga x_90) (⟨by decide, by decide⟩ : rg 0 0 (0 : Int32)) (by decide) (by decide)
          have o_98 : rl 0 0 x_90 := rl_eq c_91.symm
          have h_99 : rg 0 0 x_90 := rl_y o_98 (⟨by decide, by decide⟩ : rg 0 0 (0 : Int32)) h_97 (by decide) (by decide)
          have h_100 : (x_89 : Int64) = a3 := cmp_eq ex_90 c_91
          refine lv_iload hx hb dX5_placeOf_25 (lv_at hl 3 rfl) ?_
          exact oE_i hx hb hr rfl hlocks hP hD hS () [0] rfl (by decide) ⟨(rgw (lo := (-1)) (hi := 3) h_87 (by decide) (by decide)), hY.symm⟩ (Nat.le_of_ble_eq_true rfl) (Nat.le_of_ble_eq_true rfl) dX5_placeOf_27
  refine lv_iconst (v := 0) hx hb dX5_placeOf_0 (by decide) ?_
  refine lv_istore (lv' := [(4, .int 0), (0, .ref r1), (1, .int a2), (2, .long a3)]) hx hb dX5_placeOf_1 hl (by decide) rfl (fun ls hl => ?_)
  exact J3_66 5 0 trivial (⟨by decide, by decide⟩ : rg 0 4 (0 : Int32)) (by have q0 := (⟨by decide, by decide⟩ : rg 0 0 (0 : Int32)).1; omega) hY H locs ls (oPsub hP [0] rfl) (hD.sub [0] (by decide) rfl) hS (lv_sub hl [1, 2, 3, 0] rfl)
set_option maxHeartbeats 4000000 in
set_option maxRecDepth 100000 in
theorem e_X5_placeOf_5 (l : Launch) (D : va_G) (ca : Nat → ClassId) (sz : Nat) (r1 : Nat) (a2 : Int32) (a3 : Int64) (F_r1 : Nat → Int64) (i_a2 : rg 0 5 a2) : oMet l yX5_placeOf wsX5_placeOf ({ frames := 0, cells := 0, slots := 0, locals := 0 } : Room) [.ref r1, .int a2, .long a3] D ca sz [(aJ ca r1 5 F_r1)] (oQi D (fun (r : Int32) (u : Unit) => (rg (-1) 4 r) ∧ (r = y_X5_placeOf_5 a2 a3 F_r1)) (fun (u : Unit) => [(aJ ca r1 5 F_r1)])) 0 0 := by
  refine oM (cc := cX5_placeOf) (maxL := 5) (ret := (some .int)) (by decide) rfl (Nat.le_of_ble_eq_true rfl) [(0, .ref r1), (1, .int a2), (2, .long a3)] rfl ?_
  intro p e s m below meth c A H locs ls hx hb hr hml hts hown hlocks hin hK hP hD hA hS hl
  have hown : s.vm.findClass RX5 = some m.cls := hown
  have hY := y_X5_placeOf_5_s a2 a3 F_r1
  have J3_66 : ∀ (n3 : Nat) (y3_0 : Int32), True → rg 0 5 y3_0 → 5 < y3_0.toInt + (n3 : Int) → y_X5_placeOf_5 a2 a3 F_r1 = y_X5_placeOf_5_3 a2 a3 F_r1 n3 y3_0 → ∀ (H : Heap) (locs : List Loc) (ls : Array Slot), va_P D vwCl [(aJ ca r1 5 F_r1)] H → va_D A [(aJ ca r1 5 F_r1)] → va_S A s.heap H locs → lv_has ls 5 [(0, .ref r1), (1, .int a2), (2, .long a3), (4, .int y3_0)] → W p l e ({ frames := 0, cells := 0, slots := 0, locals := 0 } : Room) s m ([.ref r1, .int a2, .long a3] : List Value).toArray below meth c H locs 0 0 (MQ below ((oQi D (fun (r : Int32) (u : Unit) => (rg (-1) 4 r) ∧ (r = y_X5_placeOf_5 a2 a3 F_r1)) (fun (u : Unit) => [(aJ ca r1 5 F_r1)])) A) ([.ref r1, .int a2, .long a3] : List Value).toArray s 0 0 A) (F0 m 3 ls []) := by
    intro n3
    induction n3 with
    | zero => intro y3_0 _ hy3_0 hn hY; exact absurd hn (by have q9 := hy3_0.2; omega)
    | succ n3 ih3 =>
      intro y3_0 _ hy3_0 hn hY H locs ls hP hD hS hl
      have hY := hY.trans (y_X5_placeOf_5_3_s a2 a3 F_r1 _ y3_0)
      refine lv_iload hx hb dX5_placeOf_3 (lv_at hl 3 rfl) ?_
      refine lv_iload_n hx hb dX5_placeOf_5 rfl (lv_at hl 1 rfl) ?_
      refine lv_icmp_ge (tgt := 34) hx hb dX5_placeOf_6 (by decide) (fun c_84 => ?_) (fun c_84 => ?_)
      · skip
        have hY := hY.trans (if_pos c_84)
        have o_85 : rl 0 a2 y3_0 := rl_le c_84
        refine lv_iconst (v := (-1)) hx hb dX5_placeOf_34 (by decide) ?_
        exact oE_i hx hb hr rfl hlocks hP hD hS () [0] rfl (by decide) ⟨(⟨by decide, by decide⟩ : rg (-1) 4 ((-1) : Int32)), hY.symm⟩ (Nat.le_of_ble_eq_true rfl) (Nat.le_of_ble_eq_true rfl) dX5_placeOf_35
      · skip
        have hY := hY.trans (if_neg c_84)
        have o_86 : rl 1 y3_0 a2 := rl_nle c_84
        have h_87 : rg 0 4 y3_0 := rl_x o_86 hy3_0 i_a2 (by decide) (by decide)
        have h_88 : rg 1 5 a2 := rl_y o_86 hy3_0 i_a2 (by decide) (by decide)
        refine lv_iload hx hb dX5_placeOf_9 (lv_at hl 3 rfl) ?_
        refine lv_aload_n hx hb dX5_placeOf_11 rfl (lv_at hl 0 rfl) ?_
        refine va_alen hx hb hK.1 hP 0 1 rfl rfl (v := 5) rfl dX5_placeOf_12 ?_
        refine lv_icmp_ge (tgt := 34) hx hb dX5_placeOf_13 (by decide) (fun c => absurd c (no_le (⟨by decide, by decide⟩ : rg 5 5 (5 : Int32)) h_87 (by decide))) (fun _ => ?_)
        refine lv_aload_n hx hb dX5_placeOf_16 rfl (lv_at hl 0 rfl) ?_
        refine lv_iload hx hb dX5_placeOf_17 (lv_at hl 3 rfl) ?_
        refine va_lald hx hb hK.1 hP 0 1 rfl rfl (rg_in h_87 (by decide) (by decide)) dX5_placeOf_19 ?_
        refine lv_topl (fun x_89 ex_89 => ?_)
        have hY := hY.trans (lt1_e ex_89)
        refine lv_lload_n hx hb dX5_placeOf_20 rfl (lv_at hl 2 rfl) ?_
        refine W.lcmp hx hb dX5_placeOf_21 ?_
        refine lv_topi (fun x_90 ex_90 => ?_)
        have hY := hY.trans (lt1_e ex_90)
        refine lv_if_ne (tgt := 28) hx hb dX5_placeOf_22 (by decide) (fun c_91 => ?_) (fun c_91 => ?_)
        · skip
          have hY := hY.trans (if_neg c_91)
          have h_92 : ¬ (x_89 : Int64) = a3 := cmp_nn ex_90 c_91
          obtain ⟨x_93, ex_93⟩ : ∃ y : Int32, y = y3_0 + 1 := ⟨_, rfl⟩
          have hY := hY.trans (lt1_e ex_93)
          have h_94 : rg 1 5 x_93 := by rw [ex_93]; exact rg_add h_87 (⟨by decide, by decide⟩ : rg 1 1 (1 : Int32)) (by decide) (by decide) (by decide) (by decide)
          have l_95 : lq x_93.toInt (y3_0.toInt + 1) := lqm (by rw [ex_93]; have q := tadd h_87 (⟨by decide, by decide⟩ : rg 1 1 (1 : Int32)) (by decide) (by decide); have r1 := lqe (lqm (by decide) : lq (1 : Int32).toInt 1); omega)
          refine lv_iinc (v := x_93) (lv' := [(4, .int x_93), (0, .ref r1), (1, .int a2), (2, .long a3)]) hx hb dX5_placeOf_28 hl (k := 3) rfl (by rw [ex_93]; rfl) (by decide) rfl (fun ls hl => ?_)
          refine lv_goto (tgt := 3) hx hb dX5_placeOf_31 (by decide) ?_
          exact ih3 x_93 trivial (rgw (lo := 0) (hi := 5) h_94 (by decide) (by decide)) (by have q0 := lqe l_95; omega) hY H locs ls (oPsub hP [0] rfl) (hD.sub [0] (by decide) rfl) hS (lv_sub hl [1, 2, 3, 0] rfl)
        · skip
          have hY := hY.trans (if_pos c_91)
          have o_96 : rl 0 x_90 0 := rl_eq c_91
          have h_97 : rg (-2147483648) 0 x_90 := rl_x o_96 (rga x_90) (⟨by decide, by decide⟩ : rg 0 0 (0 : Int32)) (by decide) (by decide)
          have o_98 : rl 0 0 x_90 := rl_eq c_91.symm
          have h_99 : rg 0 0 x_90 := rl_y o_98 (⟨by decide, by decide⟩ : rg 0 0 (0 : Int32)) h_97 (by decide) (by decide)
          have h_100 : (x_89 : Int64) = a3 := cmp_eq ex_90 c_91
          refine lv_iload hx hb dX5_placeOf_25 (lv_at hl 3 rfl) ?_
          exact oE_i hx hb hr rfl hlocks hP hD hS () [0] rfl (by decide) ⟨(rgw (lo := (-1)) (hi := 4) h_87 (by decide) (by decide)), hY.symm⟩ (Nat.le_of_ble_eq_true rfl) (Nat.le_of_ble_eq_true rfl) dX5_placeOf_27
  refine lv_iconst (v := 0) hx hb dX5_placeOf_0 (by decide) ?_
  refine lv_istore (lv' := [(4, .int 0), (0, .ref r1), (1, .int a2), (2, .long a3)]) hx hb dX5_placeOf_1 hl (by decide) rfl (fun ls hl => ?_)
  exact J3_66 6 0 trivial (⟨by decide, by decide⟩ : rg 0 5 (0 : Int32)) (by have q0 := (⟨by decide, by decide⟩ : rg 0 0 (0 : Int32)).1; omega) hY H locs ls (oPsub hP [0] rfl) (hD.sub [0] (by decide) rfl) hS (lv_sub hl [1, 2, 3, 0] rfl)
theorem dX5_jurorNamed_0 : decode cX5_jurorNamed 0 = .ok (.aload_n 0, 1) := by decide +kernel
theorem dX5_jurorNamed_1 : decode cX5_jurorNamed 1 = .ok (.getfield 9, 3) := by decide +kernel
theorem dX5_jurorNamed_4 : decode cX5_jurorNamed 4 = .ok (.aload_n 0, 1) := by decide +kernel
theorem dX5_jurorNamed_5 : decode cX5_jurorNamed 5 = .ok (.getfield 43, 3) := by decide +kernel
theorem dX5_jurorNamed_8 : decode cX5_jurorNamed 8 = .ok (.lload_n 1, 1) := by decide +kernel
theorem dX5_jurorNamed_9 : decode cX5_jurorNamed 9 = .ok (.invokestatic 68, 3) := by decide +kernel
theorem dX5_jurorNamed_12 : decode cX5_jurorNamed 12 = .ok (.ireturn, 1) := by decide +kernel
set_option maxRecDepth 20000 in
theorem ggX5_jurorNamed_X5_placeOf : GoodIn wsX5_jurorNamed wsX5_placeOf := goodIn_r _ [6] rfl (by decide +kernel)
set_option maxRecDepth 20000 in
theorem gX5_jurorNamed_X5_placeOf : GoodIn wsX5_jurorNamed (va_wsS RX5 68 yX5_placeOf wsX5_placeOf) := goodIn_app (goodIn_of _ (by decide +kernel)) ggX5_jurorNamed_X5_placeOf
set_option maxHeartbeats 4000000 in
set_option maxRecDepth 100000 in
theorem e_X5_jurorNamed (l : Launch) (D : va_G) (ca : Nat → ClassId) (sz : Nat) (h0 : Nat) (a1 : Int64) (h0_jurors : Int32) (h0_floors : Int32) (h0_cases : Int32) (h0_one : Int32) (h0_dent : Int32) (h0_seated : Int32) (h0_jurorName : Nat) (h0_floorName : Nat) (h0_caseName : Nat) (h0_pitch : Nat) (h0_length : Nat) (h0_hands : Nat) (h0_tune : Nat) (h0_dull : Nat) (h0_caseFloor : Nat) (h0_tuned : Nat) (F_h0_jurorName : Nat → Int64) (i_h0_jurors : rg 0 10 h0_jurors) (i_h0_floors : rg 0 4 h0_floors) (i_h0_cases : rg 0 5 h0_cases) (i_h0_seated : rg 0 1023 h0_seated) : oMet l yX5_jurorNamed wsX5_jurorNamed ({ frames := 1, cells := 0, slots := 0, locals := 24 } : Room) [.ref h0, .long a1] D ca sz [(h0, .inr (5, [.int h0_jurors, .int h0_floors, .int h0_cases, .int h0_one, .int h0_dent, .int h0_seated, .ref h0_jurorName, .ref h0_floorName, .ref h0_caseName, .ref h0_pitch, .ref h0_length, .ref h0_hands, .ref h0_tune, .ref h0_dull, .ref h0_caseFloor, .ref h0_tuned])), (aJ ca h0_jurorName 10 F_h0_jurorName)] (oQi D (fun (r : Int32) (u : Unit) => (rg (-1) 9 r) ∧ (r = y_X5_jurorNamed a1 h0_jurors F_h0_jurorName)) (fun (u : Unit) => [(h0, .inr (5, [.int h0_jurors, .int h0_floors, .int h0_cases, .int h0_one, .int h0_dent, .int h0_seated, .ref h0_jurorName, .ref h0_floorName, .ref h0_caseName, .ref h0_pitch, .ref h0_length, .ref h0_hands, .ref h0_tune, .ref h0_dull, .ref h0_caseFloor, .ref h0_tuned])), (aJ ca h0_jurorName 10 F_h0_jurorName)])) 0 0 := by
  refine oM (cc := cX5_jurorNamed) (maxL := 3) (ret := (some .int)) (by decide) rfl (Nat.le_of_ble_eq_true rfl) [(0, .ref h0), (1, .long a1)] rfl ?_
  intro p e s m below meth c A H locs ls hx hb hr hml hts hown hlocks hin hK hP hD hA hS hl
  have hown : s.vm.findClass RX5 = some m.cls := hown
  have hY := y_X5_jurorNamed_s a1 h0_jurors F_h0_jurorName
  have k1 := hts (.fieldLink RX5 9 "LidCourt$Law" "jurorName" "[J") (by decide +kernel)
  have k2 : ∀ w ∈ wsX50, w ∈ wsX5_jurorNamed := fun _ h => List.mem_cons_of_mem _ (List.mem_append_right _ h)
  have k3 := hts (.fieldLink RX5 43 "LidCourt$Law" "jurors" "I") (by decide +kernel)
  refine lv_aload_n hx hb dX5_jurorNamed_0 rfl (lv_at hl 0 rfl) ?_
  refine va_get (D := D) (ci := 5) (v := .ref h0_jurorName) (C := RX5) (T := TX5) (N := 16) hx hb hts k2 hown hK.1 hP 0 rfl rfl 6 (by decide) k1 (fun _ h9 => h9) rfl dX5_jurorNamed_1 ?_
  refine lv_aload_n hx hb dX5_jurorNamed_4 rfl (lv_at hl 0 rfl) ?_
  refine va_get (D := D) (ci := 5) (v := .int h0_jurors) (C := RX5) (T := TX5) (N := 16) hx hb hts k2 hown hK.1 hP 0 rfl rfl 0 (by decide) k3 (fun _ h9 => h9) rfl dX5_jurorNamed_5 ?_
  refine lv_lload_n hx hb dX5_jurorNamed_8 rfl (lv_at hl 1 rfl) ?_
  refine oC_i (Wc := [(aJ ca h0_jurorName 10 F_h0_jurorName)]) (Wr := [(h0, .inr (5, [.int h0_jurors, .int h0_floors, .int h0_cases, .int h0_one, .int h0_dent, .int h0_seated, .ref h0_jurorName, .ref h0_floorName, .ref h0_caseName, .ref h0_pitch, .ref h0_length, .ref h0_hands, .ref h0_tune, .ref h0_dull, .ref h0_caseFloor, .ref h0_tuned]))]) (va_runS (As := [.ref h0_jurorName, .int h0_jurors, .long a1]) (rest := []) ⟨hx, hb, hml, hown, hts⟩ (e_X5_placeOf_10 l D ca H.size h0_jurorName h0_jurors a1 F_h0_jurorName i_h0_jurors) (va_cwS 3 hts gX5_jurorNamed_X5_placeOf rfl rfl rfl (by decide +kernel) ⟨Nat.le_of_ble_eq_true rfl, Nat.le_of_ble_eq_true rfl⟩) (oPS hK hP hD [1] rfl (by decide)) rfl rfl hl.1 rfl (lv_room (Nat.le_of_ble_eq_true rfl)) dX5_jurorNamed_9 ⟨Nat.le_of_ble_eq_true rfl, Nat.le_of_ble_eq_true rfl⟩) hP hD hS hA [1] [0] rfl rfl (by decide) (by decide) (fun r_5 u H locs w_6 hP hD hS => ?_)
  obtain ⟨⟩ := u
  have hP : va_P D vwCl [(h0, .inr (5, [.int h0_jurors, .int h0_floors, .int h0_cases, .int h0_one, .int h0_dent, .int h0_seated, .ref h0_jurorName, .ref h0_floorName, .ref h0_caseName, .ref h0_pitch, .ref h0_length, .ref h0_hands, .ref h0_tune, .ref h0_dull, .ref h0_caseFloor, .ref h0_tuned])), (aJ ca h0_jurorName 10 F_h0_jurorName)] H := hP
  have hD : va_D A [(h0, .inr (5, [.int h0_jurors, .int h0_floors, .int h0_cases, .int h0_one, .int h0_dent, .int h0_seated, .ref h0_jurorName, .ref h0_floorName, .ref h0_caseName, .ref h0_pitch, .ref h0_length, .ref h0_hands, .ref h0_tune, .ref h0_dull, .ref h0_caseFloor, .ref h0_tuned])), (aJ ca h0_jurorName 10 F_h0_jurorName)] := hD
  try dsimp only at w_6
  obtain ⟨h_7, h_8⟩ := w_6
  have hY := hY.trans (lt1_e h_8)
  exact oE_i hx hb hr rfl hlocks hP hD hS () [0, 1] rfl (by decide) ⟨h_7, hY.symm⟩ (Nat.le_of_ble_eq_true rfl) (Nat.le_of_ble_eq_true rfl) dX5_jurorNamed_12
theorem dX5_floorNamed_0 : decode cX5_floorNamed 0 = .ok (.aload_n 0, 1) := by decide +kernel
theorem dX5_floorNamed_1 : decode cX5_floorNamed 1 = .ok (.getfield 15, 3) := by decide +kernel
theorem dX5_floorNamed_4 : decode cX5_floorNamed 4 = .ok (.aload_n 0, 1) := by decide +kernel
theorem dX5_floorNamed_5 : decode cX5_floorNamed 5 = .ok (.getfield 47, 3) := by decide +kernel
theorem dX5_floorNamed_8 : decode cX5_floorNamed 8 = .ok (.lload_n 1, 1) := by decide +kernel
theorem dX5_floorNamed_9 : decode cX5_floorNamed 9 = .ok (.invokestatic 68, 3) := by decide +kernel
theorem dX5_floorNamed_12 : decode cX5_floorNamed 12 = .ok (.ireturn, 1) := by decide +kernel
set_option maxRecDepth 20000 in
theorem ggX5_floorNamed_X5_placeOf : GoodIn wsX5_floorNamed wsX5_placeOf := goodIn_r _ [6] rfl (by decide +kernel)
set_option maxRecDepth 20000 in
theorem gX5_floorNamed_X5_placeOf : GoodIn wsX5_floorNamed (va_wsS RX5 68 yX5_placeOf wsX5_placeOf) := goodIn_app (goodIn_of _ (by decide +kernel)) ggX5_floorNamed_X5_placeOf
set_option maxHeartbeats 4000000 in
set_option maxRecDepth 100000 in
theorem e_X5_floorNamed (l : Launch) (D : va_G) (ca : Nat → ClassId) (sz : Nat) (h0 : Nat) (a1 : Int64) (h0_jurors : Int32) (h0_floors : Int32) (h0_cases : Int32) (h0_one : Int32) (h0_dent : Int32) (h0_seated : Int32) (h0_jurorName : Nat) (h0_floorName : Nat) (h0_caseName : Nat) (h0_pitch : Nat) (h0_length : Nat) (h0_hands : Nat) (h0_tune : Nat) (h0_dull : Nat) (h0_caseFloor : Nat) (h0_tuned : Nat) (F_h0_floorName : Nat → Int64) (i_h0_jurors : rg 0 10 h0_jurors) (i_h0_floors : rg 0 4 h0_floors) (i_h0_cases : rg 0 5 h0_cases) (i_h0_seated : rg 0 1023 h0_seated) : oMet l yX5_floorNamed wsX5_floorNamed ({ frames := 1, cells := 0, slots := 0, locals := 24 } : Room) [.ref h0, .long a1] D ca sz [(h0, .inr (5, [.int h0_jurors, .int h0_floors, .int h0_cases, .int h0_one, .int h0_dent, .int h0_seated, .ref h0_jurorName, .ref h0_floorName, .ref h0_caseName, .ref h0_pitch, .ref h0_length, .ref h0_hands, .ref h0_tune, .ref h0_dull, .ref h0_caseFloor, .ref h0_tuned])), (aJ ca h0_floorName 4 F_h0_floorName)] (oQi D (fun (r : Int32) (u : Unit) => (rg (-1) 3 r) ∧ (r = y_X5_floorNamed a1 h0_floors F_h0_floorName)) (fun (u : Unit) => [(h0, .inr (5, [.int h0_jurors, .int h0_floors, .int h0_cases, .int h0_one, .int h0_dent, .int h0_seated, .ref h0_jurorName, .ref h0_floorName, .ref h0_caseName, .ref h0_pitch, .ref h0_length, .ref h0_hands, .ref h0_tune, .ref h0_dull, .ref h0_caseFloor, .ref h0_tuned])), (aJ ca h0_floorName 4 F_h0_floorName)])) 0 0 := by
  refine oM (cc := cX5_floorNamed) (maxL := 3) (ret := (some .int)) (by decide) rfl (Nat.le_of_ble_eq_true rfl) [(0, .ref h0), (1, .long a1)] rfl ?_
  intro p e s m below meth c A H locs ls hx hb hr hml hts hown hlocks hin hK hP hD hA hS hl
  have hown : s.vm.findClass RX5 = some m.cls := hown
  have hY := y_X5_floorNamed_s a1 h0_floors F_h0_floorName
  have k1 := hts (.fieldLink RX5 15 "LidCourt$Law" "floorName" "[J") (by decide +kernel)
  have k2 : ∀ w ∈ wsX50, w ∈ wsX5_floorNamed := fun _ h => List.mem_cons_of_mem _ (List.mem_append_right _ h)
  have k3 := hts (.fieldLink RX5 47 "LidCourt$Law" "floors" "I") (by decide +kernel)
  refine lv_aload_n hx hb dX5_floorNamed_0 rfl (lv_at hl 0 rfl) ?_
  refine va_get (D := D) (ci := 5) (v := .ref h0_floorName) (C := RX5) (T := TX5) (N := 16) hx hb hts k2 hown hK.1 hP 0 rfl rfl 7 (by decide) k1 (fun _ h9 => h9) rfl dX5_floorNamed_1 ?_
  refine lv_aload_n hx hb dX5_floorNamed_4 rfl (lv_at hl 0 rfl) ?_
  refine va_get (D := D) (ci := 5) (v := .int h0_floors) (C := RX5) (T := TX5) (N := 16) hx hb hts k2 hown hK.1 hP 0 rfl rfl 1 (by decide) k3 (fun _ h9 => h9) rfl dX5_floorNamed_5 ?_
  refine lv_lload_n hx hb dX5_floorNamed_8 rfl (lv_at hl 1 rfl) ?_
  refine oC_i (Wc := [(aJ ca h0_floorName 4 F_h0_floorName)]) (Wr := [(h0, .inr (5, [.int h0_jurors, .int h0_floors, .int h0_cases, .int h0_one, .int h0_dent, .int h0_seated, .ref h0_jurorName, .ref h0_floorName, .ref h0_caseName, .ref h0_pitch, .ref h0_length, .ref h0_hands, .ref h0_tune, .ref h0_dull, .ref h0_caseFloor, .ref h0_tuned]))]) (va_runS (As := [.ref h0_floorName, .int h0_floors, .long a1]) (rest := []) ⟨hx, hb, hml, hown, hts⟩ (e_X5_placeOf_4 l D ca H.size h0_floorName h0_floors a1 F_h0_floorName i_h0_floors) (va_cwS 3 hts gX5_floorNamed_X5_placeOf rfl rfl rfl (by decide +kernel) ⟨Nat.le_of_ble_eq_true rfl, Nat.le_of_ble_eq_true rfl⟩) (oPS hK hP hD [1] rfl (by decide)) rfl rfl hl.1 rfl (lv_room (Nat.le_of_ble_eq_true rfl)) dX5_floorNamed_9 ⟨Nat.le_of_ble_eq_true rfl, Nat.le_of_ble_eq_true rfl⟩) hP hD hS hA [1] [0] rfl rfl (by decide) (by decide) (fun r_5 u H locs w_6 hP hD hS => ?_)
  obtain ⟨⟩ := u
  have hP : va_P D vwCl [(h0, .inr (5, [.int h0_jurors, .int h0_floors, .int h0_cases, .int h0_one, .int h0_dent, .int h0_seated, .ref h0_jurorName, .ref h0_floorName, .ref h0_caseName, .ref h0_pitch, .ref h0_length, .ref h0_hands, .ref h0_tune, .ref h0_dull, .ref h0_caseFloor, .ref h0_tuned])), (aJ ca h0_floorName 4 F_h0_floorName)] H := hP
  have hD : va_D A [(h0, .inr (5, [.int h0_jurors, .int h0_floors, .int h0_cases, .int h0_one, .int h0_dent, .int h0_seated, .ref h0_jurorName, .ref h0_floorName, .ref h0_caseName, .ref h0_pitch, .ref h0_length, .ref h0_hands, .ref h0_tune, .ref h0_dull, .ref h0_caseFloor, .ref h0_tuned])), (aJ ca h0_floorName 4 F_h0_floorName)] := hD
  try dsimp only at w_6
  obtain ⟨h_7, h_8⟩ := w_6
  have hY := hY.trans (lt1_e h_8)
  exact oE_i hx hb hr rfl hlocks hP hD hS () [0, 1] rfl (by decide) ⟨h_7, hY.symm⟩ (Nat.le_of_ble_eq_true rfl) (Nat.le_of_ble_eq_true rfl) dX5_floorNamed_12
theorem dX5_caseNamed_0 : decode cX5_caseNamed 0 = .ok (.aload_n 0, 1) := by decide +kernel
theorem dX5_caseNamed_1 : decode cX5_caseNamed 1 = .ok (.getfield 18, 3) := by decide +kernel
theorem dX5_caseNamed_4 : decode cX5_caseNamed 4 = .ok (.aload_n 0, 1) := by decide +kernel
theorem dX5_caseNamed_5 : decode cX5_caseNamed 5 = .ok (.getfield 50, 3) := by decide +kernel
theorem dX5_caseNamed_8 : decode cX5_caseNamed 8 = .ok (.lload_n 1, 1) := by decide +kernel
theorem dX5_caseNamed_9 : decode cX5_caseNamed 9 = .ok (.invokestatic 68, 3) := by decide +kernel
theorem dX5_caseNamed_12 : decode cX5_caseNamed 12 = .ok (.ireturn, 1) := by decide +kernel
set_option maxRecDepth 20000 in
theorem ggX5_caseNamed_X5_placeOf : GoodIn wsX5_caseNamed wsX5_placeOf := goodIn_r _ [6] rfl (by decide +kernel)
set_option maxRecDepth 20000 in
theorem gX5_caseNamed_X5_placeOf : GoodIn wsX5_caseNamed (va_wsS RX5 68 yX5_placeOf wsX5_placeOf) := goodIn_app (goodIn_of _ (by decide +kernel)) ggX5_caseNamed_X5_placeOf
set_option maxHeartbeats 4000000 in
set_option maxRecDepth 100000 in
theorem e_X5_caseNamed (l : Launch) (D : va_G) (ca : Nat → ClassId) (sz : Nat) (h0 : Nat) (a1 : Int64) (h0_jurors : Int32) (h0_floors : Int32) (h0_cases : Int32) (h0_one : Int32) (h0_dent : Int32) (h0_seated : Int32) (h0_jurorName : Nat) (h0_floorName : Nat) (h0_caseName : Nat) (h0_pitch : Nat) (h0_length : Nat) (h0_hands : Nat) (h0_tune : Nat) (h0_dull : Nat) (h0_caseFloor : Nat) (h0_tuned : Nat) (F_h0_caseName : Nat → Int64) (i_h0_jurors : rg 0 10 h0_jurors) (i_h0_floors : rg 0 4 h0_floors) (i_h0_cases : rg 0 5 h0_cases) (i_h0_seated : rg 0 1023 h0_seated) : oMet l yX5_caseNamed wsX5_caseNamed ({ frames := 1, cells := 0, slots := 0, locals := 24 } : Room) [.ref h0, .long a1] D ca sz [(h0, .inr (5, [.int h0_jurors, .int h0_floors, .int h0_cases, .int h0_one, .int h0_dent, .int h0_seated, .ref h0_jurorName, .ref h0_floorName, .ref h0_caseName, .ref h0_pitch, .ref h0_length, .ref h0_hands, .ref h0_tune, .ref h0_dull, .ref h0_caseFloor, .ref h0_tuned])), (aJ ca h0_caseName 5 F_h0_caseName)] (oQi D (fun (r : Int32) (u : Unit) => (rg (-1) 4 r) ∧ (r = y_X5_caseNamed a1 h0_cases F_h0_caseName)) (fun (u : Unit) => [(h0, .inr (5, [.int h0_jurors, .int h0_floors, .int h0_cases, .int h0_one, .int h0_dent, .int h0_seated, .ref h0_jurorName, .ref h0_floorName, .ref h0_caseName, .ref h0_pitch, .ref h0_length, .ref h0_hands, .ref h0_tune, .ref h0_dull, .ref h0_caseFloor, .ref h0_tuned])), (aJ ca h0_caseName 5 F_h0_caseName)])) 0 0 := by
  refine oM (cc := cX5_caseNamed) (maxL := 3) (ret := (some .int)) (by decide) rfl (Nat.le_of_ble_eq_true rfl) [(0, .ref h0), (1, .long a1)] rfl ?_
  intro p e s m below meth c A H locs ls hx hb hr hml hts hown hlocks hin hK hP hD hA hS hl
  have hown : s.vm.findClass RX5 = some m.cls := hown
  have hY := y_X5_caseNamed_s a1 h0_cases F_h0_caseName
  have k1 := hts (.fieldLink RX5 18 "LidCourt$Law" "caseName" "[J") (by decide +kernel)
  have k2 : ∀ w ∈ wsX50, w ∈ wsX5_caseNamed := fun _ h => List.mem_cons_of_mem _ (List.mem_append_right _ h)
  have k3 := hts (.fieldLink RX5 50 "LidCourt$Law" "cases" "I") (by decide +kernel)
  refine lv_aload_n hx hb dX5_caseNamed_0 rfl (lv_at hl 0 rfl) ?_
  refine va_get (D := D) (ci := 5) (v := .ref h0_caseName) (C := RX5) (T := TX5) (N := 16) hx hb hts k2 hown hK.1 hP 0 rfl rfl 8 (by decide) k1 (fun _ h9 => h9) rfl dX5_caseNamed_1 ?_
  refine lv_aload_n hx hb dX5_caseNamed_4 rfl (lv_at hl 0 rfl) ?_
  refine va_get (D := D) (ci := 5) (v := .int h0_cases) (C := RX5) (T := TX5) (N := 16) hx hb hts k2 hown hK.1 hP 0 rfl rfl 2 (by decide) k3 (fun _ h9 => h9) rfl dX5_caseNamed_5 ?_
  refine lv_lload_n hx hb dX5_caseNamed_8 rfl (lv_at hl 1 rfl) ?_
  refine oC_i (Wc := [(aJ ca h0_caseName 5 F_h0_caseName)]) (Wr := [(h0, .inr (5, [.int h0_jurors, .int h0_floors, .int h0_cases, .int h0_one, .int h0_dent, .int h0_seated, .ref h0_jurorName, .ref h0_floorName, .ref h0_caseName, .ref h0_pitch, .ref h0_length, .ref h0_hands, .ref h0_tune, .ref h0_dull, .ref h0_caseFloor, .ref h0_tuned]))]) (va_runS (As := [.ref h0_caseName, .int h0_cases, .long a1]) (rest := []) ⟨hx, hb, hml, hown, hts⟩ (e_X5_placeOf_5 l D ca H.size h0_caseName h0_cases a1 F_h0_caseName i_h0_cases) (va_cwS 3 hts gX5_caseNamed_X5_placeOf rfl rfl rfl (by decide +kernel) ⟨Nat.le_of_ble_eq_true rfl, Nat.le_of_ble_eq_true rfl⟩) (oPS hK hP hD [1] rfl (by decide)) rfl rfl hl.1 rfl (lv_room (Nat.le_of_ble_eq_true rfl)) dX5_caseNamed_9 ⟨Nat.le_of_ble_eq_true rfl, Nat.le_of_ble_eq_true rfl⟩) hP hD hS hA [1] [0] rfl rfl (by decide) (by decide) (fun r_5 u H locs w_6 hP hD hS => ?_)
  obtain ⟨⟩ := u
  have hP : va_P D vwCl [(h0, .inr (5, [.int h0_jurors, .int h0_floors, .int h0_cases, .int h0_one, .int h0_dent, .int h0_seated, .ref h0_jurorName, .ref h0_floorName, .ref h0_caseName, .ref h0_pitch, .ref h0_length, .ref h0_hands, .ref h0_tune, .ref h0_dull, .ref h0_caseFloor, .ref h0_tuned])), (aJ ca h0_caseName 5 F_h0_caseName)] H := hP
  have hD : va_D A [(h0, .inr (5, [.int h0_jurors, .int h0_floors, .int h0_cases, .int h0_one, .int h0_dent, .int h0_seated, .ref h0_jurorName, .ref h0_floorName, .ref h0_caseName, .ref h0_pitch, .ref h0_length, .ref h0_hands, .ref h0_tune, .ref h0_dull, .ref h0_caseFloor, .ref h0_tuned])), (aJ ca h0_caseName 5 F_h0_caseName)] := hD
  try dsimp only at w_6
  obtain ⟨h_7, h_8⟩ := w_6
  have hY := hY.trans (lt1_e h_8)
  exact oE_i hx hb hr rfl hlocks hP hD hS () [0, 1] rfl (by decide) ⟨h_7, hY.symm⟩ (Nat.le_of_ble_eq_true rfl) (Nat.le_of_ble_eq_true rfl) dX5_caseNamed_12
theorem dX5_isTold_0 : decode cX5_isTold 0 = .ok (.aload_n 0, 1) := by decide +kernel
theorem dX5_isTold_1 : decode cX5_isTold 1 = .ok (.lload_n 1, 1) := by decide +kernel
theorem dX5_isTold_2 : decode cX5_isTold 2 = .ok (.invokevirtual 72, 3) := by decide +kernel
theorem dX5_isTold_5 : decode cX5_isTold 5 = .ok (.iconst (-1), 1) := by decide +kernel
theorem dX5_isTold_6 : decode cX5_isTold 6 = .ok (.if_icmp .ne 21, 3) := by decide +kernel
theorem dX5_isTold_9 : decode cX5_isTold 9 = .ok (.aload_n 0, 1) := by decide +kernel
theorem dX5_isTold_10 : decode cX5_isTold 10 = .ok (.lload_n 1, 1) := by decide +kernel
theorem dX5_isTold_11 : decode cX5_isTold 11 = .ok (.invokevirtual 76, 3) := by decide +kernel
theorem dX5_isTold_14 : decode cX5_isTold 14 = .ok (.iconst (-1), 1) := by decide +kernel
theorem dX5_isTold_15 : decode cX5_isTold 15 = .ok (.if_icmp .ne 12, 3) := by decide +kernel
theorem dX5_isTold_18 : decode cX5_isTold 18 = .ok (.aload_n 0, 1) := by decide +kernel
theorem dX5_isTold_19 : decode cX5_isTold 19 = .ok (.lload_n 1, 1) := by decide +kernel
theorem dX5_isTold_20 : decode cX5_isTold 20 = .ok (.invokevirtual 79, 3) := by decide +kernel
theorem dX5_isTold_23 : decode cX5_isTold 23 = .ok (.iconst (-1), 1) := by decide +kernel
theorem dX5_isTold_24 : decode cX5_isTold 24 = .ok (.if_icmp .eq 7, 3) := by decide +kernel
theorem dX5_isTold_27 : decode cX5_isTold 27 = .ok (.iconst 1, 1) := by decide +kernel
theorem dX5_isTold_28 : decode cX5_isTold 28 = .ok (.goto 4, 3) := by decide +kernel
theorem dX5_isTold_31 : decode cX5_isTold 31 = .ok (.iconst 0, 1) := by decide +kernel
theorem dX5_isTold_32 : decode cX5_isTold 32 = .ok (.ireturn, 1) := by decide +kernel
set_option maxRecDepth 20000 in
theorem ggX5_isTold_X5_jurorNamed : GoodIn wsX5_isTold wsX5_jurorNamed := goodIn_r _ [5, 6, 7, 8, 9, 4, 10, 23, 24, 25, 26, 27, 28, 29, 30, 31, 32, 33, 34, 35, 36, 37, 38] rfl (by decide +kernel)
set_option maxRecDepth 20000 in
theorem gX5_isTold_X5_jurorNamed : GoodIn wsX5_isTold (wsV RX5 72 RX5 yX5_jurorNamed wsX5_jurorNamed) := goodIn_app (goodIn_of _ (by decide +kernel)) ggX5_isTold_X5_jurorNamed
set_option maxRecDepth 20000 in
theorem ggX5_isTold_X5_floorNamed : GoodIn wsX5_isTold wsX5_floorNamed := goodIn_r _ [14, 15, 16, 8, 9, 4, 10, 23, 24, 25, 26, 27, 28, 29, 30, 31, 32, 33, 34, 35, 36, 37, 38] rfl (by decide +kernel)
set_option maxRecDepth 20000 in
theorem gX5_isTold_X5_floorNamed : GoodIn wsX5_isTold (wsV RX5 76 RX5 yX5_floorNamed wsX5_floorNamed) := goodIn_app (goodIn_of _ (by decide +kernel)) ggX5_isTold_X5_floorNamed
set_option maxRecDepth 20000 in
theorem ggX5_isTold_X5_caseNamed : GoodIn wsX5_isTold wsX5_caseNamed := goodIn_r _ [20, 21, 22, 8, 9, 4, 10, 23, 24, 25, 26, 27, 28, 29, 30, 31, 32, 33, 34, 35, 36, 37, 38] rfl (by decide +kernel)
set_option maxRecDepth 20000 in
theorem gX5_isTold_X5_caseNamed : GoodIn wsX5_isTold (wsV RX5 79 RX5 yX5_caseNamed wsX5_caseNamed) := goodIn_app (goodIn_of _ (by decide +kernel)) ggX5_isTold_X5_caseNamed
set_option maxHeartbeats 4000000 in
set_option maxRecDepth 100000 in
theorem e_X5_isTold (l : Launch) (D : va_G) (ca : Nat → ClassId) (sz : Nat) (h0 : Nat) (a1 : Int64) (h0_jurors : Int32) (h0_floors : Int32) (h0_cases : Int32) (h0_one : Int32) (h0_dent : Int32) (h0_seated : Int32) (h0_jurorName : Nat) (h0_floorName : Nat) (h0_caseName : Nat) (h0_pitch : Nat) (h0_length : Nat) (h0_hands : Nat) (h0_tune : Nat) (h0_dull : Nat) (h0_caseFloor : Nat) (h0_tuned : Nat) (F_h0_jurorName : Nat → Int64) (F_h0_floorName : Nat → Int64) (F_h0_caseName : Nat → Int64) (i_h0_jurors : rg 0 10 h0_jurors) (i_h0_floors : rg 0 4 h0_floors) (i_h0_cases : rg 0 5 h0_cases) (i_h0_seated : rg 0 1023 h0_seated) : oMet l yX5_isTold wsX5_isTold ({ frames := 2, cells := 0, slots := 0, locals := 46 } : Room) [.ref h0, .long a1] D ca sz [(h0, .inr (5, [.int h0_jurors, .int h0_floors, .int h0_cases, .int h0_one, .int h0_dent, .int h0_seated, .ref h0_jurorName, .ref h0_floorName, .ref h0_caseName, .ref h0_pitch, .ref h0_length, .ref h0_hands, .ref h0_tune, .ref h0_dull, .ref h0_caseFloor, .ref h0_tuned])), (aJ ca h0_jurorName 10 F_h0_jurorName), (aJ ca h0_floorName 4 F_h0_floorName), (aJ ca h0_caseName 5 F_h0_caseName)] (oQi D (fun (r : Int32) (u : Unit) => ((r = 1) ∧ (r = y_X5_isTold a1 h0_jurors h0_floors h0_cases F_h0_jurorName F_h0_floorName F_h0_caseName)) ∨ ((r = 0) ∧ (r = y_X5_isTold a1 h0_jurors h0_floors h0_cases F_h0_jurorName F_h0_floorName F_h0_caseName))) (fun (u : Unit) => [(h0, .inr (5, [.int h0_jurors, .int h0_floors, .int h0_cases, .int h0_one, .int h0_dent, .int h0_seated, .ref h0_jurorName, .ref h0_floorName, .ref h0_caseName, .ref h0_pitch, .ref h0_length, .ref h0_hands, .ref h0_tune, .ref h0_dull, .ref h0_caseFloor, .ref h0_tuned])), (aJ ca h0_jurorName 10 F_h0_jurorName), (aJ ca h0_floorName 4 F_h0_floorName), (aJ ca h0_caseName 5 F_h0_caseName)])) 0 0 := by
  refine oM (cc := cX5_isTold) (maxL := 3) (ret := (some .boolean)) (by decide) rfl (Nat.le_of_ble_eq_true rfl) [(0, .ref h0), (1, .long a1)] rfl ?_
  intro p e s m below meth c A H locs ls hx hb hr hml hts hown hlocks hin hK hP hD hA hS hl
  have hown : s.vm.findClass RX5 = some m.cls := hown
  have hY := y_X5_isTold_s a1 h0_jurors h0_floors h0_cases F_h0_jurorName F_h0_floorName F_h0_caseName
  refine lv_aload_n hx hb dX5_isTold_0 rfl (lv_at hl 0 rfl) ?_
  refine lv_lload_n hx hb dX5_isTold_1 rfl (lv_at hl 1 rfl) ?_
  refine oC_i (Wc := [(h0, .inr (5, [.int h0_jurors, .int h0_floors, .int h0_cases, .int h0_one, .int h0_dent, .int h0_seated, .ref h0_jurorName, .ref h0_floorName, .ref h0_caseName, .ref h0_pitch, .ref h0_length, .ref h0_hands, .ref h0_tune, .ref h0_dull, .ref h0_caseFloor, .ref h0_tuned])), (aJ ca h0_jurorName 10 F_h0_jurorName)]) (Wr := [(aJ ca h0_floorName 4 F_h0_floorName), (aJ ca h0_caseName 5 F_h0_caseName)]) (va_runV (As := [.long a1]) (rest := []) ⟨hx, hb, hml, hown, hts⟩ (e_X5_jurorNamed l D ca H.size h0 a1 h0_jurors h0_floors h0_cases h0_one h0_dent h0_seated h0_jurorName h0_floorName h0_caseName h0_pitch h0_length h0_hands h0_tune h0_dull h0_caseFloor h0_tuned F_h0_jurorName i_h0_jurors i_h0_floors i_h0_cases i_h0_seated) (cwV 1 hts gX5_isTold_X5_jurorNamed rfl rfl rfl (by decide +kernel) ⟨Nat.le_of_ble_eq_true rfl, Nat.le_of_ble_eq_true rfl⟩) (oPV (C := RX5) hK hP hD [0, 1] rfl (by decide) 0 rfl (ci := 5) rfl rfl) rfl rfl hl.1 rfl (lv_room (Nat.le_of_ble_eq_true rfl)) dX5_isTold_2 ⟨Nat.le_of_ble_eq_true rfl, Nat.le_of_ble_eq_true rfl⟩) hP hD hS hA [0, 1] [2, 3] rfl rfl (by decide) (by decide) (fun r_28 u H locs w_29 hP hD hS => ?_)
  obtain ⟨⟩ := u
  have hP : va_P D vwCl [(aJ ca h0_floorName 4 F_h0_floorName), (aJ ca h0_caseName 5 F_h0_caseName), (h0, .inr (5, [.int h0_jurors, .int h0_floors, .int h0_cases, .int h0_one, .int h0_dent, .int h0_seated, .ref h0_jurorName, .ref h0_floorName, .ref h0_caseName, .ref h0_pitch, .ref h0_length, .ref h0_hands, .ref h0_tune, .ref h0_dull, .ref h0_caseFloor, .ref h0_tuned])), (aJ ca h0_jurorName 10 F_h0_jurorName)] H := hP
  have hD : va_D A [(aJ ca h0_floorName 4 F_h0_floorName), (aJ ca h0_caseName 5 F_h0_caseName), (h0, .inr (5, [.int h0_jurors, .int h0_floors, .int h0_cases, .int h0_one, .int h0_dent, .int h0_seated, .ref h0_jurorName, .ref h0_floorName, .ref h0_caseName, .ref h0_pitch, .ref h0_length, .ref h0_hands, .ref h0_tune, .ref h0_dull, .ref h0_caseFloor, .ref h0_tuned])), (aJ ca h0_jurorName 10 F_h0_jurorName)] := hD
  try dsimp only at w_29
  obtain ⟨h_30, h_31⟩ := w_29
  have hY := hY.trans (lt1_e h_31)
  refine lv_iconst (v := (-1)) hx hb dX5_isTold_5 (by decide) ?_
  refine lv_icmp_ne (tgt := 27) hx hb dX5_isTold_6 (by decide) (fun c_32 => ?_) (fun c_32 => ?_)
  · skip
    have hY := hY.trans (if_neg c_32)
    have h_33 : rg 0 9 r_28 := cl_nlo c_32 h_30 (show ((-1) : Int32).toInt = (-1) by decide) (by decide) (by decide)
    refine lv_iconst (v := 1) hx hb dX5_isTold_27 (by decide) ?_
    refine lv_goto (tgt := 32) hx hb dX5_isTold_28 (by decide) ?_
    exact oE_i hx hb hr (by decide) hlocks hP hD hS () [2, 3, 0, 1] rfl (by decide) (Or.inl ⟨rfl, hY.symm⟩) (Nat.le_of_ble_eq_true rfl) (Nat.le_of_ble_eq_true rfl) dX5_isTold_32
  · skip
    have hY := hY.trans (if_pos c_32)
    have o_34 : rl 0 r_28 (-1) := rl_eq c_32
    have h_35 : rg (-1) (-1) r_28 := rl_x o_34 h_30 (⟨by decide, by decide⟩ : rg (-1) (-1) ((-1) : Int32)) (by decide) (by decide)
    have o_36 : rl 0 (-1) r_28 := rl_eq c_32.symm
    refine lv_aload_n hx hb dX5_isTold_9 rfl (lv_at hl 0 rfl) ?_
    refine lv_lload_n hx hb dX5_isTold_10 rfl (lv_at hl 1 rfl) ?_
    refine oC_i (Wc := [(h0, .inr (5, [.int h0_jurors, .int h0_floors, .int h0_cases, .int h0_one, .int h0_dent, .int h0_seated, .ref h0_jurorName, .ref h0_floorName, .ref h0_caseName, .ref h0_pitch, .ref h0_length, .ref h0_hands, .ref h0_tune, .ref h0_dull, .ref h0_caseFloor, .ref h0_tuned])), (aJ ca h0_floorName 4 F_h0_floorName)]) (Wr := [(aJ ca h0_caseName 5 F_h0_caseName), (aJ ca h0_jurorName 10 F_h0_jurorName)]) (va_runV (As := [.long a1]) (rest := []) ⟨hx, hb, hml, hown, hts⟩ (e_X5_floorNamed l D ca H.size h0 a1 h0_jurors h0_floors h0_cases h0_one h0_dent h0_seated h0_jurorName h0_floorName h0_caseName h0_pitch h0_length h0_hands h0_tune h0_dull h0_caseFloor h0_tuned F_h0_floorName i_h0_jurors i_h0_floors i_h0_cases i_h0_seated) (cwV 1 hts gX5_isTold_X5_floorNamed rfl rfl rfl (by decide +kernel) ⟨Nat.le_of_ble_eq_true rfl, Nat.le_of_ble_eq_true rfl⟩) (oPV (C := RX5) hK hP hD [2, 0] rfl (by decide) 0 rfl (ci := 5) rfl rfl) rfl rfl hl.1 rfl (lv_room (Nat.le_of_ble_eq_true rfl)) dX5_isTold_11 ⟨Nat.le_of_ble_eq_true rfl, Nat.le_of_ble_eq_true rfl⟩) hP hD hS hA [2, 0] [1, 3] rfl rfl (by decide) (by decide) (fun r_37 u H locs w_38 hP hD hS => ?_)
    obtain ⟨⟩ := u
    have hP : va_P D vwCl [(aJ ca h0_caseName 5 F_h0_caseName), (aJ ca h0_jurorName 10 F_h0_jurorName), (h0, .inr (5, [.int h0_jurors, .int h0_floors, .int h0_cases, .int h0_one, .int h0_dent, .int h0_seated, .ref h0_jurorName, .ref h0_floorName, .ref h0_caseName, .ref h0_pitch, .ref h0_length, .ref h0_hands, .ref h0_tune, .ref h0_dull, .ref h0_caseFloor, .ref h0_tuned])), (aJ ca h0_floorName 4 F_h0_floorName)] H := hP
    have hD : va_D A [(aJ ca h0_caseName 5 F_h0_caseName), (aJ ca h0_jurorName 10 F_h0_jurorName), (h0, .inr (5, [.int h0_jurors, .int h0_floors, .int h0_cases, .int h0_one, .int h0_dent, .int h0_seated, .ref h0_jurorName, .ref h0_floorName, .ref h0_caseName, .ref h0_pitch, .ref h0_length, .ref h0_hands, .ref h0_tune, .ref h0_dull, .ref h0_caseFloor, .ref h0_tuned])), (aJ ca h0_floorName 4 F_h0_floorName)] := hD
    try dsimp only at w_38
    obtain ⟨h_39, h_40⟩ := w_38
    have hY := hY.trans (lt1_e h_40)
    refine lv_iconst (v := (-1)) hx hb dX5_isTold_14 (by decide) ?_
    refine lv_icmp_ne (tgt := 27) hx hb dX5_isTold_15 (by decide) (fun c_41 => ?_) (fun c_41 => ?_)
    · skip
      have hY := hY.trans (if_neg c_41)
      have h_42 : rg 0 3 r_37 := cl_nlo c_41 h_39 (show ((-1) : Int32).toInt = (-1) by decide) (by decide) (by decide)
      refine lv_iconst (v := 1) hx hb dX5_isTold_27 (by decide) ?_
      refine lv_goto (tgt := 32) hx hb dX5_isTold_28 (by decide) ?_
      exact oE_i hx hb hr (by decide) hlocks hP hD hS () [2, 1, 3, 0] rfl (by decide) (Or.inl ⟨rfl, hY.symm⟩) (Nat.le_of_ble_eq_true rfl) (Nat.le_of_ble_eq_true rfl) dX5_isTold_32
    · skip
      have hY := hY.trans (if_pos c_41)
      have o_43 : rl 0 r_37 (-1) := rl_eq c_41
      have h_44 : rg (-1) (-1) r_37 := rl_x o_43 h_39 (⟨by decide, by decide⟩ : rg (-1) (-1) ((-1) : Int32)) (by decide) (by decide)
      have o_45 : rl 0 (-1) r_37 := rl_eq c_41.symm
      refine lv_aload_n hx hb dX5_isTold_18 rfl (lv_at hl 0 rfl) ?_
      refine lv_lload_n hx hb dX5_isTold_19 rfl (lv_at hl 1 rfl) ?_
      refine oC_i (Wc := [(h0, .inr (5, [.int h0_jurors, .int h0_floors, .int h0_cases, .int h0_one, .int h0_dent, .int h0_seated, .ref h0_jurorName, .ref h0_floorName, .ref h0_caseName, .ref h0_pitch, .ref h0_length, .ref h0_hands, .ref h0_tune, .ref h0_dull, .ref h0_caseFloor, .ref h0_tuned])), (aJ ca h0_caseName 5 F_h0_caseName)]) (Wr := [(aJ ca h0_jurorName 10 F_h0_jurorName), (aJ ca h0_floorName 4 F_h0_floorName)]) (va_runV (As := [.long a1]) (rest := []) ⟨hx, hb, hml, hown, hts⟩ (e_X5_caseNamed l D ca H.size h0 a1 h0_jurors h0_floors h0_cases h0_one h0_dent h0_seated h0_jurorName h0_floorName h0_caseName h0_pitch h0_length h0_hands h0_tune h0_dull h0_caseFloor h0_tuned F_h0_caseName i_h0_jurors i_h0_floors i_h0_cases i_h0_seated) (cwV 1 hts gX5_isTold_X5_caseNamed rfl rfl rfl (by decide +kernel) ⟨Nat.le_of_ble_eq_true rfl, Nat.le_of_ble_eq_true rfl⟩) (oPV (C := RX5) hK hP hD [2, 0] rfl (by decide) 0 rfl (ci := 5) rfl rfl) rfl rfl hl.1 rfl (lv_room (Nat.le_of_ble_eq_true rfl)) dX5_isTold_20 ⟨Nat.le_of_ble_eq_true rfl, Nat.le_of_ble_eq_true rfl⟩) hP hD hS hA [2, 0] [1, 3] rfl rfl (by decide) (by decide) (fun r_46 u H locs w_47 hP hD hS => ?_)
      obtain ⟨⟩ := u
      have hP : va_P D vwCl [(aJ ca h0_jurorName 10 F_h0_jurorName), (aJ ca h0_floorName 4 F_h0_floorName), (h0, .inr (5, [.int h0_jurors, .int h0_floors, .int h0_cases, .int h0_one, .int h0_dent, .int h0_seated, .ref h0_jurorName, .ref h0_floorName, .ref h0_caseName, .ref h0_pitch, .ref h0_length, .ref h0_hands, .ref h0_tune, .ref h0_dull, .ref h0_caseFloor, .ref h0_tuned])), (aJ ca h0_caseName 5 F_h0_caseName)] H := hP
      have hD : va_D A [(aJ ca h0_jurorName 10 F_h0_jurorName), (aJ ca h0_floorName 4 F_h0_floorName), (h0, .inr (5, [.int h0_jurors, .int h0_floors, .int h0_cases, .int h0_one, .int h0_dent, .int h0_seated, .ref h0_jurorName, .ref h0_floorName, .ref h0_caseName, .ref h0_pitch, .ref h0_length, .ref h0_hands, .ref h0_tune, .ref h0_dull, .ref h0_caseFloor, .ref h0_tuned])), (aJ ca h0_caseName 5 F_h0_caseName)] := hD
      try dsimp only at w_47
      obtain ⟨h_48, h_49⟩ := w_47
      have hY := hY.trans (lt1_e h_49)
      refine lv_iconst (v := (-1)) hx hb dX5_isTold_23 (by decide) ?_
      refine lv_icmp_eq (tgt := 31) hx hb dX5_isTold_24 (by decide) (fun c_50 => ?_) (fun c_50 => ?_)
      · skip
        have hY := hY.trans (if_pos c_50)
        have o_51 : rl 0 r_46 (-1) := rl_eq c_50
        have h_52 : rg (-1) (-1) r_46 := rl_x o_51 h_48 (⟨by decide, by decide⟩ : rg (-1) (-1) ((-1) : Int32)) (by decide) (by decide)
        have o_53 : rl 0 (-1) r_46 := rl_eq c_50.symm
        refine lv_iconst (v := 0) hx hb dX5_isTold_31 (by decide) ?_
        exact oE_i hx hb hr (by decide) hlocks hP hD hS () [2, 0, 1, 3] rfl (by decide) (Or.inr (⟨rfl, hY.symm⟩)) (Nat.le_of_ble_eq_true rfl) (Nat.le_of_ble_eq_true rfl) dX5_isTold_32
      · skip
        have hY := hY.trans (if_neg c_50)
        have h_54 : rg 0 4 r_46 := cl_nlo c_50 h_48 (show ((-1) : Int32).toInt = (-1) by decide) (by decide) (by decide)
        refine lv_iconst (v := 1) hx hb dX5_isTold_27 (by decide) ?_
        refine lv_goto (tgt := 32) hx hb dX5_isTold_28 (by decide) ?_
        exact oE_i hx hb hr (by decide) hlocks hP hD hS () [2, 0, 1, 3] rfl (by decide) (Or.inl ⟨rfl, hY.symm⟩) (Nat.le_of_ble_eq_true rfl) (Nat.le_of_ble_eq_true rfl) dX5_isTold_32
theorem dX6_seesName_0 : decode cX6_seesName 0 = .ok (.aload_n 0, 1) := by decide +kernel
theorem dX6_seesName_1 : decode cX6_seesName 1 = .ok (.getfield 51, 3) := by decide +kernel
theorem dX6_seesName_4 : decode cX6_seesName 4 = .ok (.iconst 2, 1) := by decide +kernel
theorem dX6_seesName_5 : decode cX6_seesName 5 = .ok (.if_icmp .eq 5, 3) := by decide +kernel
theorem dX6_seesName_8 : decode cX6_seesName 8 = .ok (.iconst 0, 1) := by decide +kernel
theorem dX6_seesName_9 : decode cX6_seesName 9 = .ok (.ireturn, 1) := by decide +kernel
theorem dX6_seesName_10 : decode cX6_seesName 10 = .ok (.iconst 0, 1) := by decide +kernel
theorem dX6_seesName_11 : decode cX6_seesName 11 = .ok (.istore_n 1, 1) := by decide +kernel
theorem dX6_seesName_12 : decode cX6_seesName 12 = .ok (.iload_n 1, 1) := by decide +kernel
theorem dX6_seesName_13 : decode cX6_seesName 13 = .ok (.getstatic 69, 3) := by decide +kernel
theorem dX6_seesName_16 : decode cX6_seesName 16 = .ok (.arraylength, 1) := by decide +kernel
theorem dX6_seesName_17 : decode cX6_seesName 17 = .ok (.if_icmp .ge 27, 3) := by decide +kernel
theorem dX6_seesName_20 : decode cX6_seesName 20 = .ok (.aload_n 0, 1) := by decide +kernel
theorem dX6_seesName_21 : decode cX6_seesName 21 = .ok (.getfield 44, 3) := by decide +kernel
theorem dX6_seesName_24 : decode cX6_seesName 24 = .ok (.getstatic 69, 3) := by decide +kernel
theorem dX6_seesName_27 : decode cX6_seesName 27 = .ok (.iload_n 1, 1) := by decide +kernel
theorem dX6_seesName_28 : decode cX6_seesName 28 = .ok (.aaload, 1) := by decide +kernel
theorem dX6_seesName_29 : decode cX6_seesName 29 = .ok (.getfield 66, 3) := by decide +kernel
theorem dX6_seesName_32 : decode cX6_seesName 32 = .ok (.lcmp, 1) := by decide +kernel
theorem dX6_seesName_33 : decode cX6_seesName 33 = .ok (.ifCond .ne 5, 3) := by decide +kernel
theorem dX6_seesName_36 : decode cX6_seesName 36 = .ok (.iconst 0, 1) := by decide +kernel
theorem dX6_seesName_37 : decode cX6_seesName 37 = .ok (.ireturn, 1) := by decide +kernel
theorem dX6_seesName_38 : decode cX6_seesName 38 = .ok (.iinc 1 1, 3) := by decide +kernel
theorem dX6_seesName_41 : decode cX6_seesName 41 = .ok (.goto (-29), 3) := by decide +kernel
theorem dX6_seesName_44 : decode cX6_seesName 44 = .ok (.iconst 1, 1) := by decide +kernel
theorem dX6_seesName_45 : decode cX6_seesName 45 = .ok (.ireturn, 1) := by decide +kernel
set_option maxHeartbeats 4000000 in
set_option maxRecDepth 100000 in
theorem e_X6_seesName (l : Launch) (D : va_G) (ca : Nat → ClassId) (ad : Nat → Nat) (wt : Nat) (sz : Nat) (h0 : Nat) (h0_bytes : Nat) (h0_length : Int32) (h0_faultKind : Int32) (h0_faultAt : Int32) (h0_letters : Int64) (h0_mostBytes : Int32) (h0_behind : Int32) (h0_at : Int32) (h0_kind : Int32) (h0_number : Int32) (i_h0_length : rg 0 940 h0_length) (i_h0_faultKind : rg 0 4 h0_faultKind) (i_h0_behind : rg 0 940 h0_behind) : sMet l yX6_seesName wsX6_seesName ({ frames := 0, cells := 0, slots := 0, locals := 0 } : Room) [.ref h0] D ca ad wt sz [(h0, .inr (6, [.ref h0_bytes, .int h0_length, .int h0_faultKind, .int h0_faultAt, .long h0_letters, .int h0_mostBytes, .int h0_behind, .int h0_at, .int h0_kind, .int h0_number]))] (oQi D (fun (r : Int32) (u : Unit) => ((r = 0) ∧ (r = y_X6_seesName h0_letters h0_kind)) ∨ ((r = 1) ∧ (rg 2 2 h0_kind) ∧ (r = y_X6_seesName h0_letters h0_kind))) (fun (u : Unit) => [(h0, .inr (6, [.ref h0_bytes, .int h0_length, .int h0_faultKind, .int h0_faultAt, .long h0_letters, .int h0_mostBytes, .int h0_behind, .int h0_at, .int h0_kind, .int h0_number]))])) 0 0 := by
  refine sM (cc := cX6_seesName) (maxL := 2) (ret := (some .boolean)) (by decide) rfl (Nat.le_of_ble_eq_true rfl) [(0, .ref h0)] rfl ?_
  intro p e s m below meth c A H locs ls hx hb hr hml hts hown hlocks hin hK hP hD hA hS hl hZ
  have hown : s.vm.findClass RX6 = some m.cls := hown
  have hE := hZ.2.2.2.2.2.1
  have hY := y_X6_seesName_s h0_letters h0_kind
  have k1 := hts (.fieldLink RX6 44 "LidCourt$Reader" "letters" "J") (by decide +kernel)
  have k2 : ∀ w ∈ wsX60, w ∈ wsX6_seesName := fun _ h => List.mem_cons_of_mem _ (List.mem_append_right _ h)
  have k3 := hts (.fieldLink RX6 66 "LidCourt$Word" "letters" "J") (by decide +kernel)
  have k4 := hts (.fieldLink RX6 51 "LidCourt$Reader" "kind" "I") (by decide +kernel)
  have J12_98 : ∀ (n12 : Nat) (y12_0 : Int32), True → rg 0 940 y12_0 → rg 2 2 h0_kind → 940 < y12_0.toInt + (n12 : Int) → y_X6_seesName h0_letters h0_kind = y_X6_seesName_12 h0_letters n12 y12_0 → ∀ (H : Heap) (locs : List Loc) (ls : Array Slot), va_P D vwCl [(h0, .inr (6, [.ref h0_bytes, .int h0_length, .int h0_faultKind, .int h0_faultAt, .long h0_letters, .int h0_mostBytes, .int h0_behind, .int h0_at, .int h0_kind, .int h0_number]))] H → va_D A [(h0, .inr (6, [.ref h0_bytes, .int h0_length, .int h0_faultKind, .int h0_faultAt, .long h0_letters, .int h0_mostBytes, .int h0_behind, .int h0_at, .int h0_kind, .int h0_number]))] → va_S A s.heap H locs → lv_has ls 2 [(0, .ref h0), (1, .int y12_0)] → W p l e ({ frames := 0, cells := 0, slots := 0, locals := 0 } : Room) s m ([.ref h0] : List Value).toArray below meth c H locs 0 0 (MQ below ((oQi D (fun (r : Int32) (u : Unit) => ((r = 0) ∧ (r = y_X6_seesName h0_letters h0_kind)) ∨ ((r = 1) ∧ (rg 2 2 h0_kind) ∧ (r = y_X6_seesName h0_letters h0_kind))) (fun (u : Unit) => [(h0, .inr (6, [.ref h0_bytes, .int h0_length, .int h0_faultKind, .int h0_faultAt, .long h0_letters, .int h0_mostBytes, .int h0_behind, .int h0_at, .int h0_kind, .int h0_number]))])) A) ([.ref h0] : List Value).toArray s 0 0 A) (F0 m 12 ls []) := by
    intro n12
    induction n12 with
    | zero => intro y12_0 _ hy12_0 t12_h0_kind hn hY; exact absurd hn (by have q9 := hy12_0.2; omega)
    | succ n12 ih12 =>
      intro y12_0 _ hy12_0 t12_h0_kind hn hY H locs ls hP hD hS hl
      have hY := hY.trans (y_X6_seesName_12_s h0_letters _ y12_0)
      refine lv_iload_n hx hb dX6_seesName_12 rfl (lv_at hl 1 rfl) ?_
      refine va_getsN (v := .ref wt) hx hb hZ.2.2.1 hS hown (va_Nw.use rfl hK.2.2.1.1) (fun _ h9 => h9) dX6_seesName_13 ?_
      refine va_tlen hx hb hZ.2.2.2.1 hS (v := 26) (by decide) dX6_seesName_16 ?_
      refine lv_icmp_ge (tgt := 44) hx hb dX6_seesName_17 (by decide) (fun c_117 => ?_) (fun c_117 => ?_)
      · skip
        have hY := hY.trans (if_pos c_117)
        have o_118 : rl 0 26 y12_0 := rl_le c_117
        have h_119 : rg 26 940 y12_0 := rl_y o_118 (⟨by decide, by decide⟩ : rg 26 26 (26 : Int32)) hy12_0 (by decide) (by decide)
        refine lv_iconst (v := 1) hx hb dX6_seesName_44 (by decide) ?_
        exact oE_i hx hb hr (by decide) hlocks hP hD hS () [0] rfl (by decide) (Or.inr (⟨rfl, t12_h0_kind, hY.symm⟩)) (Nat.le_of_ble_eq_true rfl) (Nat.le_of_ble_eq_true rfl) dX6_seesName_45
      · skip
        have hY := hY.trans (if_neg c_117)
        have o_120 : rl 1 y12_0 26 := rl_nle c_117
        have h_121 : rg 0 25 y12_0 := rl_x o_120 hy12_0 (⟨by decide, by decide⟩ : rg 26 26 (26 : Int32)) (by decide) (by decide)
        refine lv_aload_n hx hb dX6_seesName_20 rfl (lv_at hl 0 rfl) ?_
        refine va_get (D := D) (ci := 6) (v := .long h0_letters) (C := RX6) (T := TX6) (N := 10) hx hb hts k2 hown hK.1 hP 0 rfl rfl 4 (by decide) k1 (fun _ h9 => h9) rfl dX6_seesName_21 ?_
        refine va_getsN (v := .ref wt) hx hb hZ.2.2.1 hS hown (va_Nw.use rfl hK.2.2.1.1) (fun _ h9 => h9) dX6_seesName_24 ?_
        refine lv_iload_n hx hb dX6_seesName_27 rfl (lv_at hl 1 rfl) ?_
        refine vb_tq hx hb hZ.2.2.2.1 hS (rg_in h_121 (by decide) (by decide)) (v := .ref (ad y12_0.toNatClampNeg)) rfl dX6_seesName_28 ?_
        have h_122 : y12_0.toNatClampNeg < 26 := adk h_121 (by decide) (by decide)
        refine va_getX hx hb hE (i := y12_0.toNatClampNeg) h_122 hS hown k3 (fun _ h9 => h9) dX6_seesName_29 ?_
        refine lv_topl (fun x_123 ex_123 => ?_)
        have hY := hY.trans (lt1_e ex_123)
        refine W.lcmp hx hb dX6_seesName_32 ?_
        refine lv_topi (fun x_124 ex_124 => ?_)
        have hY := hY.trans (lt1_e ex_124)
        refine lv_if_ne (tgt := 38) hx hb dX6_seesName_33 (by decide) (fun c_125 => ?_) (fun c_125 => ?_)
        · skip
          have hY := hY.trans (if_neg c_125)
          have h_126 : ¬ (h0_letters : Int64) = x_123 := cmp_nn ex_124 c_125
          obtain ⟨x_127, ex_127⟩ : ∃ y : Int32, y = y12_0 + 1 := ⟨_, rfl⟩
          have hY := hY.trans (lt1_e ex_127)
          have h_128 : rg 1 26 x_127 := by rw [ex_127]; exact rg_add h_121 (⟨by decide, by decide⟩ : rg 1 1 (1 : Int32)) (by decide) (by decide) (by decide) (by decide)
          have l_129 : lq x_127.toInt (y12_0.toInt + 1) := lqm (by rw [ex_127]; have q := tadd h_121 (⟨by decide, by decide⟩ : rg 1 1 (1 : Int32)) (by decide) (by decide); have r1 := lqe (lqm (by decide) : lq (1 : Int32).toInt 1); omega)
          refine lv_iinc (v := x_127) (lv' := [(1, .int x_127), (0, .ref h0)]) hx hb dX6_seesName_38 hl (k := 1) rfl (by rw [ex_127]; rfl) (by decide) rfl (fun ls hl => ?_)
          refine lv_goto (tgt := 12) hx hb dX6_seesName_41 (by decide) ?_
          exact ih12 x_127 trivial (rgw (lo := 0) (hi := 940) h_128 (by decide) (by decide)) t12_h0_kind (by have q0 := lqe l_129; omega) hY H locs ls (oPsub hP [0] rfl) (hD.sub [0] (by decide) rfl) hS (lv_sub hl [1, 0] rfl)
        · skip
          have hY := hY.trans (if_pos c_125)
          have o_130 : rl 0 x_124 0 := rl_eq c_125
          have h_131 : rg (-2147483648) 0 x_124 := rl_x o_130 (rga x_124) (⟨by decide, by decide⟩ : rg 0 0 (0 : Int32)) (by decide) (by decide)
          have o_132 : rl 0 0 x_124 := rl_eq c_125.symm
          have h_133 : rg 0 0 x_124 := rl_y o_132 (⟨by decide, by decide⟩ : rg 0 0 (0 : Int32)) h_131 (by decide) (by decide)
          have h_134 : (h0_letters : Int64) = x_123 := cmp_eq ex_124 c_125
          refine lv_iconst (v := 0) hx hb dX6_seesName_36 (by decide) ?_
          exact oE_i hx hb hr (by decide) hlocks hP hD hS () [0] rfl (by decide) (Or.inl ⟨rfl, hY.symm⟩) (Nat.le_of_ble_eq_true rfl) (Nat.le_of_ble_eq_true rfl) dX6_seesName_37
  refine lv_aload_n hx hb dX6_seesName_0 rfl (lv_at hl 0 rfl) ?_
  refine va_get (D := D) (ci := 6) (v := .int h0_kind) (C := RX6) (T := TX6) (N := 10) hx hb hts k2 hown hK.1 hP 0 rfl rfl 8 (by decide) k4 (fun _ h9 => h9) rfl dX6_seesName_1 ?_
  refine lv_iconst (v := 2) hx hb dX6_seesName_4 (by decide) ?_
  refine lv_icmp_eq (tgt := 10) hx hb dX6_seesName_5 (by decide) (fun c_135 => ?_) (fun c_135 => ?_)
  · skip
    have hY := hY.trans (if_pos c_135)
    have o_136 : rl 0 h0_kind 2 := rl_eq c_135
    have h_137 : rg (-2147483648) 2 h0_kind := rl_x o_136 (rga h0_kind) (⟨by decide, by decide⟩ : rg 2 2 (2 : Int32)) (by decide) (by decide)
    have o_138 : rl 0 2 h0_kind := rl_eq c_135.symm
    have h_139 : rg 2 2 h0_kind := rl_y o_138 (⟨by decide, by decide⟩ : rg 2 2 (2 : Int32)) h_137 (by decide) (by decide)
    refine lv_iconst (v := 0) hx hb dX6_seesName_10 (by decide) ?_
    refine lv_istore_n (lv' := [(1, .int 0), (0, .ref h0)]) hx hb dX6_seesName_11 rfl hl (by decide) rfl (fun ls hl => ?_)
    exact J12_98 941 0 trivial (⟨by decide, by decide⟩ : rg 0 940 (0 : Int32)) h_139 (by have q0 := (⟨by decide, by decide⟩ : rg 0 0 (0 : Int32)).1; omega) hY H locs ls (oPsub hP [0] rfl) (hD.sub [0] (by decide) rfl) hS (lv_sub hl [1, 0] rfl)
  · skip
    have hY := hY.trans (if_neg c_135)
    refine lv_iconst (v := 0) hx hb dX6_seesName_8 (by decide) ?_
    exact oE_i hx hb hr (by decide) hlocks hP hD hS () [0] rfl (by decide) (Or.inl ⟨rfl, hY.symm⟩) (Nat.le_of_ble_eq_true rfl) (Nat.le_of_ble_eq_true rfl) dX6_seesName_9
