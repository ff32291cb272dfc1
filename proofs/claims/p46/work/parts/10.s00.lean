theorem dX6_append_0 : decode cX6_append 0 = .ok (.bipush 24, 2) := by decide +kernel
theorem dX6_append_2 : decode cX6_append 2 = .ok (.istore_n 2, 1) := by decide +kernel
theorem dX6_append_3 : decode cX6_append 3 = .ok (.iload_n 2, 1) := by decide +kernel
theorem dX6_append_4 : decode cX6_append 4 = .ok (.ifCond .lt 45, 3) := by decide +kernel
theorem dX6_append_7 : decode cX6_append 7 = .ok (.aload_n 0, 1) := by decide +kernel
theorem dX6_append_8 : decode cX6_append 8 = .ok (.getfield 15, 3) := by decide +kernel
theorem dX6_append_11 : decode cX6_append 11 = .ok (.sipush 940, 3) := by decide +kernel
theorem dX6_append_14 : decode cX6_append 14 = .ok (.if_icmp .ge 35, 3) := by decide +kernel
theorem dX6_append_17 : decode cX6_append 17 = .ok (.aload_n 0, 1) := by decide +kernel
theorem dX6_append_18 : decode cX6_append 18 = .ok (.getfield 9, 3) := by decide +kernel
theorem dX6_append_21 : decode cX6_append 21 = .ok (.aload_n 0, 1) := by decide +kernel
theorem dX6_append_22 : decode cX6_append 22 = .ok (.getfield 15, 3) := by decide +kernel
theorem dX6_append_25 : decode cX6_append 25 = .ok (.iload_n 1, 1) := by decide +kernel
theorem dX6_append_26 : decode cX6_append 26 = .ok (.iload_n 2, 1) := by decide +kernel
theorem dX6_append_27 : decode cX6_append 27 = .ok (.iushr, 1) := by decide +kernel
theorem dX6_append_28 : decode cX6_append 28 = .ok (.sipush 255, 3) := by decide +kernel
theorem dX6_append_31 : decode cX6_append 31 = .ok (.iand, 1) := by decide +kernel
theorem dX6_append_32 : decode cX6_append 32 = .ok (.iastore, 1) := by decide +kernel
theorem dX6_append_33 : decode cX6_append 33 = .ok (.aload_n 0, 1) := by decide +kernel
theorem dX6_append_34 : decode cX6_append 34 = .ok (.dup, 1) := by decide +kernel
theorem dX6_append_35 : decode cX6_append 35 = .ok (.getfield 15, 3) := by decide +kernel
theorem dX6_append_38 : decode cX6_append 38 = .ok (.iconst 1, 1) := by decide +kernel
theorem dX6_append_39 : decode cX6_append 39 = .ok (.iadd, 1) := by decide +kernel
theorem dX6_append_40 : decode cX6_append 40 = .ok (.putfield 15, 3) := by decide +kernel
theorem dX6_append_43 : decode cX6_append 43 = .ok (.iinc 2 (-8), 3) := by decide +kernel
theorem dX6_append_46 : decode cX6_append 46 = .ok (.goto (-43), 3) := by decide +kernel
theorem dX6_append_49 : decode cX6_append 49 = .ok (.return_, 1) := by decide +kernel
set_option maxHeartbeats 4000000 in
set_option maxRecDepth 100000 in
theorem s_X6_append (l : Launch) (D : va_G) (ca : Nat → ClassId) (sz : Nat) (h0 : Nat) (a1 : Int32) (h0_bytes : Nat) (h0_length : Int32) (h0_faultKind : Int32) (h0_faultAt : Int32) (h0_letters : Int64) (h0_mostBytes : Int32) (h0_behind : Int32) (h0_at : Int32) (h0_kind : Int32) (h0_number : Int32) (F_h0_bytes : Nat → Int32) (i_h0_length : rg 0 940 h0_length) (i_h0_faultKind : rg 0 4 h0_faultKind) (i_h0_behind : rg 0 940 h0_behind) (s_h0_bytes_0 : sg 0 940 0 255 F_h0_bytes) : oMet l yX6_append wsX6_append ({ frames := 0, cells := 0, slots := 0, locals := 0 } : Room) [.ref h0, .int a1] D ca sz [(h0, .inr (6, [.ref h0_bytes, .int h0_length, .int h0_faultKind, .int h0_faultAt, .long h0_letters, .int h0_mostBytes, .int h0_behind, .int h0_at, .int h0_kind, .int h0_number])), (aI ca h0_bytes 940 F_h0_bytes)] (oQv D (fun (u : Int32 × (Nat → Int32)) => (rg 0 940 u.1) ∧ (sg 0 940 0 255 u.2) ∧ (rl 0 h0_length u.1)) (fun (u : Int32 × (Nat → Int32)) => [(h0, .inr (6, [.ref h0_bytes, .int u.1, .int h0_faultKind, .int h0_faultAt, .long h0_letters, .int h0_mostBytes, .int h0_behind, .int h0_at, .int h0_kind, .int h0_number])), (aI ca h0_bytes 940 u.2)])) 0 0 := by
  refine oM (cc := cX6_append) (maxL := 3) (ret := none) (by decide) rfl (Nat.le_of_ble_eq_true rfl) [(0, .ref h0), (1, .int a1)] rfl ?_
  intro p e s m below meth c A H locs ls hx hb hr hml hts hown hlocks hin hK hP hD hA hS hl
  have hown : s.vm.findClass RX6 = some m.cls := hown
  have k1 := hts (.fieldLink RX6 15 "LidCourt$Reader" "length" "I") (by decide +kernel)
  have k2 : ∀ w ∈ wsX60, w ∈ wsX6_append := fun _ h => List.mem_cons_of_mem _ (List.mem_append_right _ h)
  have k3 := hts (.fieldLink RX6 9 "LidCourt$Reader" "bytes" "[I") (by decide +kernel)
  have J3_69 : ∀ (n : Nat) (y3_0 : Int32) (y3_1 : Int32) (f3_2 : Nat → Int32), True → rg (-2147483648) 24 y3_0 → rg 0 940 y3_1 → rl 0 h0_length y3_1 → sg 0 940 0 255 f3_2 → y3_0.toInt < (-2147483648) + (n : Int) → ∀ (H : Heap) (locs : List Loc) (ls : Array Slot), va_P D vwCl [(h0, .inr (6, [.ref h0_bytes, .int y3_1, .int h0_faultKind, .int h0_faultAt, .long h0_letters, .int h0_mostBytes, .int h0_behind, .int h0_at, .int h0_kind, .int h0_number])), (aI ca h0_bytes 940 f3_2)] H → va_D A [(h0, .inr (6, [.ref h0_bytes, .int y3_1, .int h0_faultKind, .int h0_faultAt, .long h0_letters, .int h0_mostBytes, .int h0_behind, .int h0_at, .int h0_kind, .int h0_number])), (aI ca h0_bytes 940 f3_2)] → va_S A s.heap H locs → lv_has ls 3 [(0, .ref h0), (1, .int a1), (2, .int y3_0)] → W p l e ({ frames := 0, cells := 0, slots := 0, locals := 0 } : Room) s m ([.ref h0, .int a1] : List Value).toArray below meth c H locs 0 0 (MQ below ((oQv D (fun (u : Int32 × (Nat → Int32)) => (rg 0 940 u.1) ∧ (sg 0 940 0 255 u.2) ∧ (rl 0 h0_length u.1)) (fun (u : Int32 × (Nat → Int32)) => [(h0, .inr (6, [.ref h0_bytes, .int u.1, .int h0_faultKind, .int h0_faultAt, .long h0_letters, .int h0_mostBytes, .int h0_behind, .int h0_at, .int h0_kind, .int h0_number])), (aI ca h0_bytes 940 u.2)])) A) ([.ref h0, .int a1] : List Value).toArray s 0 0 A) (F0 m 3 ls []) := by
    intro n
    induction n with
    | zero => intro y3_0 y3_1 f3_2 _ hy3_0 hy3_1 py3_1_h0_length s3_3 hn; exact absurd hn (by have q9 := hy3_0.1; omega)
    | succ n ih =>
      intro y3_0 y3_1 f3_2 _ hy3_0 hy3_1 py3_1_h0_length s3_3 hn H locs ls hP hD hS hl
      refine lv_iload_n hx hb dX6_append_3 rfl (lv_at hl 2 rfl) ?_
      refine lv_if_lt (tgt := 49) hx hb dX6_append_4 (by decide) (fun c_91 => ?_) (fun c_91 => ?_)
      · skip
        have o_92 : rl 1 y3_0 0 := rl_lt c_91
        have h_93 : rg (-2147483648) (-1) y3_0 := rl_x o_92 hy3_0 (⟨by decide, by decide⟩ : rg 0 0 (0 : Int32)) (by decide) (by decide)
        exact oE_v hx hb hr hlocks hP hD hS (y3_1, f3_2) [0, 1] rfl (by decide) ⟨hy3_1, s3_3, (show rl 0 h0_length y3_1 from rlm (by have q0 := rle py3_1_h0_length; omega))⟩ (Nat.le_of_ble_eq_true rfl) (Nat.le_of_ble_eq_true rfl) dX6_append_49
      · skip
        have o_94 : rl 0 0 y3_0 := rl_nlt c_91
        have h_95 : rg 0 24 y3_0 := rl_y o_94 (⟨by decide, by decide⟩ : rg 0 0 (0 : Int32)) hy3_0 (by decide) (by decide)
        refine lv_aload_n hx hb dX6_append_7 rfl (lv_at hl 0 rfl) ?_
        refine va_get (D := D) (ci := 6) (v := .int y3_1) (C := RX6) (T := TX6) (N := 10) hx hb hts k2 hown hK.1 hP 0 rfl rfl 1 (by decide) k1 (fun _ h9 => h9) rfl dX6_append_8 ?_
        refine lv_sipush (v := 940) hx hb dX6_append_11 (by decide) ?_
        refine lv_icmp_ge (tgt := 49) hx hb dX6_append_14 (by decide) (fun c_96 => ?_) (fun c_96 => ?_)
        · skip
          have o_97 : rl 0 940 y3_1 := rl_le c_96
          have h_98 : rg 940 940 y3_1 := rl_y o_97 (⟨by decide, by decide⟩ : rg 940 940 (940 : Int32)) hy3_1 (by decide) (by decide)
          exact oE_v hx hb hr hlocks hP hD hS (y3_1, f3_2) [0, 1] rfl (by decide) ⟨(rgw (lo := 0) (hi := 940) h_98 (by decide) (by decide)), s3_3, (show rl 0 h0_length y3_1 from rlm (by have q0 := rle py3_1_h0_length; omega))⟩ (Nat.le_of_ble_eq_true rfl) (Nat.le_of_ble_eq_true rfl) dX6_append_49
        · skip
          have o_99 : rl 1 y3_1 940 := rl_nle c_96
          have h_100 : rg 0 939 y3_1 := rl_x o_99 hy3_1 (⟨by decide, by decide⟩ : rg 940 940 (940 : Int32)) (by decide) (by decide)
          refine lv_aload_n hx hb dX6_append_17 rfl (lv_at hl 0 rfl) ?_
          refine va_get (D := D) (ci := 6) (v := .ref h0_bytes) (C := RX6) (T := TX6) (N := 10) hx hb hts k2 hown hK.1 hP 0 rfl rfl 0 (by decide) k3 (fun _ h9 => h9) rfl dX6_append_18 ?_
          refine lv_aload_n hx hb dX6_append_21 rfl (lv_at hl 0 rfl) ?_
          refine va_get (D := D) (ci := 6) (v := .int y3_1) (C := RX6) (T := TX6) (N := 10) hx hb hts k2 hown hK.1 hP 0 rfl rfl 1 (by decide) k1 (fun _ h9 => h9) rfl dX6_append_22 ?_
          refine lv_iload_n hx hb dX6_append_25 rfl (lv_at hl 1 rfl) ?_
          refine lv_iload_n hx hb dX6_append_26 rfl (lv_at hl 2 rfl) ?_
          refine lv_iushr hx hb dX6_append_27 rfl ?_
          refine lv_topi (fun x_101 ex_101 => ?_)
          refine lv_sipush (v := 255) hx hb dX6_append_28 (by decide) ?_
          refine lv_iand hx hb dX6_append_31 ?_
          refine lv_topi (fun x_102 ex_102 => ?_)
          have h_103 : rg 0 255 x_102 := by rw [ex_102]; exact rg_and' (⟨by decide, by decide⟩ : rg 255 255 (255 : Int32)) (by decide) (by decide) (by decide)
          refine va_iast hx hb hK.1 hP hD hS 1 0 rfl rfl (rg_in h_100 (by decide) (by decide)) dX6_append_32 (fun H locs hP hD hS => ?_)
          obtain ⟨g_104, eg_104⟩ : ∃ y : Nat → Int32, y = upd f3_2 (y3_1 : Int32).toNatClampNeg (x_102 : Int32) := ⟨_, rfl⟩
          rw [← eg_104] at hP hD
          have s_105 : sg 0 940 0 255 g_104 := sg_val s3_3 eg_104 h_103
          have hP : va_P D vwCl [(h0, .inr (6, [.ref h0_bytes, .int y3_1, .int h0_faultKind, .int h0_faultAt, .long h0_letters, .int h0_mostBytes, .int h0_behind, .int h0_at, .int h0_kind, .int h0_number])), (aI ca h0_bytes 940 g_104)] H := hP
          have hD : va_D A [(h0, .inr (6, [.ref h0_bytes, .int y3_1, .int h0_faultKind, .int h0_faultAt, .long h0_letters, .int h0_mostBytes, .int h0_behind, .int h0_at, .int h0_kind, .int h0_number])), (aI ca h0_bytes 940 g_104)] := hD
          refine lv_aload_n hx hb dX6_append_33 rfl (lv_at hl 0 rfl) ?_
          refine lv_dup hx hb dX6_append_34 rfl ?_
          refine va_get (D := D) (ci := 6) (v := .int y3_1) (C := RX6) (T := TX6) (N := 10) hx hb hts k2 hown hK.1 hP 0 rfl rfl 1 (by decide) k1 (fun _ h9 => h9) rfl dX6_append_35 ?_
          refine lv_iconst (v := 1) hx hb dX6_append_38 (by decide) ?_
          refine lv_iadd hx hb dX6_append_39 ?_
          refine lv_topi (fun x_106 ex_106 => ?_)
          have h_107 : rg 1 940 x_106 := by rw [ex_106]; exact rg_add h_100 (⟨by decide, by decide⟩ : rg 1 1 (1 : Int32)) (by decide) (by decide) (by decide) (by decide)
          have l_108 : lq x_106.toInt (y3_1.toInt + 1) := lqm (by rw [ex_106]; have q := tadd h_100 (⟨by decide, by decide⟩ : rg 1 1 (1 : Int32)) (by decide) (by decide); have r1 := lqe (lqm (by decide) : lq (1 : Int32).toInt 1); omega)
          refine va_put (D := D) (ci := 6) (v := .int x_106) (ty := .int) (C := RX6) (T := TX6) (N := 10) hx hb hts k2 tyX6 tyX6_ok nmX6 hown hK.1 hP hD hS 0 rfl rfl 1 (by decide) k1 (fun _ h9 => h9) rfl (by decide +kernel) rfl rfl (Nat.le_of_ble_eq_true rfl) dX6_append_40 (fun H locs hP hD hS => ?_)
          have hP : va_P D vwCl [(h0, .inr (6, [.ref h0_bytes, .int x_106, .int h0_faultKind, .int h0_faultAt, .long h0_letters, .int h0_mostBytes, .int h0_behind, .int h0_at, .int h0_kind, .int h0_number])), (aI ca h0_bytes 940 g_104)] H := hP
          have hD : va_D A [(h0, .inr (6, [.ref h0_bytes, .int x_106, .int h0_faultKind, .int h0_faultAt, .long h0_letters, .int h0_mostBytes, .int h0_behind, .int h0_at, .int h0_kind, .int h0_number])), (aI ca h0_bytes 940 g_104)] := hD
          obtain ⟨x_109, ex_109⟩ : ∃ y : Int32, y = y3_0 + (-8) := ⟨_, rfl⟩
          have h_110 : rg (-8) 16 x_109 := by rw [ex_109]; exact rg_add h_95 (⟨by decide, by decide⟩ : rg (-8) (-8) ((-8) : Int32)) (by decide) (by decide) (by decide) (by decide)
          have l_111 : lq x_109.toInt (y3_0.toInt + (-8)) := lqm (by rw [ex_109]; have q := tadd h_95 (⟨by decide, by decide⟩ : rg (-8) (-8) ((-8) : Int32)) (by decide) (by decide); have r1 := lqe (lqm (by decide) : lq ((-8) : Int32).toInt (-8)); omega)
          refine lv_iinc (v := x_109) (lv' := [(2, .int x_109), (0, .ref h0), (1, .int a1)]) hx hb dX6_append_43 hl (k := 2) rfl (by rw [ex_109]; rfl) (by decide) rfl (fun ls hl => ?_)
          refine lv_goto (tgt := 3) hx hb dX6_append_46 (by decide) ?_
          exact ih x_109 x_106 g_104 trivial (rgw (lo := (-2147483648)) (hi := 24) h_110 (by decide) (by decide)) (rgw (lo := 0) (hi := 940) h_107 (by decide) (by decide)) (rlm (by have q0 := lqe l_108; have q1 := rle py3_1_h0_length; omega)) s_105 (by have q0 := lqe l_111; omega) H locs ls (oPsub hP [0, 1] rfl) (hD.sub [0, 1] (by decide) rfl) hS (lv_sub hl [1, 2, 0] rfl)
  refine lv_bipush (v := 24) hx hb dX6_append_0 (by decide) ?_
  refine lv_istore_n (lv' := [(2, .int 24), (0, .ref h0), (1, .int a1)]) hx hb dX6_append_2 rfl hl (by decide) rfl (fun ls hl => ?_)
  exact J3_69 2147483673 24 h0_length F_h0_bytes trivial (⟨by decide, by decide⟩ : rg (-2147483648) 24 (24 : Int32)) i_h0_length (rlm (by omega)) s_h0_bytes_0 (by have q0 := (⟨by decide, by decide⟩ : rg 24 24 (24 : Int32)).2; omega) H locs ls (oPsub hP [0, 1] rfl) (hD.sub [0, 1] (by decide) rfl) hS (lv_sub hl [1, 2, 0] rfl)
set_option maxHeartbeats 4000000 in
set_option maxRecDepth 100000 in
theorem s_X6_append4 (l : Launch) (D : va_G) (ca : Nat → ClassId) (sz : Nat) (h0 : Nat) (a1 : Int32) (h0_bytes : Nat) (h0_length : Int32) (h0_faultKind : Int32) (h0_faultAt : Int32) (h0_letters : Int64) (h0_mostBytes : Int32) (h0_behind : Int32) (h0_at : Int32) (h0_kind : Int32) (h0_number : Int32) (F_h0_bytes : Nat → Int32) (i_h0_length : rg 0 936 h0_length) (i_h0_faultKind : rg 0 4 h0_faultKind) (i_h0_behind : rg 0 940 h0_behind) (s_h0_bytes_0 : sg 0 940 0 255 F_h0_bytes) : oMet l yX6_append wsX6_append ({ frames := 0, cells := 0, slots := 0, locals := 0 } : Room) [.ref h0, .int a1] D ca sz [(h0, .inr (6, [.ref h0_bytes, .int h0_length, .int h0_faultKind, .int h0_faultAt, .long h0_letters, .int h0_mostBytes, .int h0_behind, .int h0_at, .int h0_kind, .int h0_number])), (aI ca h0_bytes 940 F_h0_bytes)] (oQv D (fun (u : Int32 × (Nat → Int32)) => (rg 4 940 u.1) ∧ (sg 0 940 0 255 u.2) ∧ (rl 4 h0_length u.1) ∧ (rl (-4) u.1 h0_length)) (fun (u : Int32 × (Nat → Int32)) => [(h0, .inr (6, [.ref h0_bytes, .int u.1, .int h0_faultKind, .int h0_faultAt, .long h0_letters, .int h0_mostBytes, .int h0_behind, .int h0_at, .int h0_kind, .int h0_number])), (aI ca h0_bytes 940 u.2)])) 0 0 := by
  refine oM (cc := cX6_append) (maxL := 3) (ret := none) (by decide) rfl (Nat.le_of_ble_eq_true rfl) [(0, .ref h0), (1, .int a1)] rfl ?_
  intro p e s m below meth c A H locs ls hx hb hr hml hts hown hlocks hin hK hP hD hA hS hl
  have hown : s.vm.findClass RX6 = some m.cls := hown
  have k1 := hts (.fieldLink RX6 15 "LidCourt$Reader" "length" "I") (by decide +kernel)
  have k2 : ∀ w ∈ wsX60, w ∈ wsX6_append := fun _ h => List.mem_cons_of_mem _ (List.mem_append_right _ h)
  have k3 := hts (.fieldLink RX6 9 "LidCourt$Reader" "bytes" "[I") (by decide +kernel)
  refine lv_bipush (v := 24) hx hb dX6_append_0 (by decide) ?_
  refine lv_istore_n (lv' := [(2, .int 24), (0, .ref h0), (1, .int a1)]) hx hb dX6_append_2 rfl hl (by decide) rfl (fun ls hl => ?_)
  refine lv_iload_n hx hb dX6_append_3 rfl (lv_at hl 0 rfl) ?_
  refine lv_if_lt (tgt := 49) hx hb dX6_append_4 (by decide) (fun c => absurd c (by decide)) (fun _ => ?_)
  refine lv_aload_n hx hb dX6_append_7 rfl (lv_at hl 1 rfl) ?_
  refine va_get (D := D) (ci := 6) (v := .int h0_length) (C := RX6) (T := TX6) (N := 10) hx hb hts k2 hown hK.1 hP 0 rfl rfl 1 (by decide) k1 (fun _ h9 => h9) rfl dX6_append_8 ?_
  refine lv_sipush (v := 940) hx hb dX6_append_11 (by decide) ?_
  refine lv_icmp_ge (tgt := 49) hx hb dX6_append_14 (by decide) (fun c => absurd c (no_le (⟨by decide, by decide⟩ : rg 940 940 (940 : Int32)) i_h0_length (by decide))) (fun _ => ?_)
  refine lv_aload_n hx hb dX6_append_17 rfl (lv_at hl 1 rfl) ?_
  refine va_get (D := D) (ci := 6) (v := .ref h0_bytes) (C := RX6) (T := TX6) (N := 10) hx hb hts k2 hown hK.1 hP 0 rfl rfl 0 (by decide) k3 (fun _ h9 => h9) rfl dX6_append_18 ?_
  refine lv_aload_n hx hb dX6_append_21 rfl (lv_at hl 1 rfl) ?_
  refine va_get (D := D) (ci := 6) (v := .int h0_length) (C := RX6) (T := TX6) (N := 10) hx hb hts k2 hown hK.1 hP 0 rfl rfl 1 (by decide) k1 (fun _ h9 => h9) rfl dX6_append_22 ?_
  refine lv_iload_n hx hb dX6_append_25 rfl (lv_at hl 2 rfl) ?_
  refine lv_iload_n hx hb dX6_append_26 rfl (lv_at hl 0 rfl) ?_
  refine lv_iushr hx hb dX6_append_27 rfl ?_
  refine lv_topi (fun x_42 ex_42 => ?_)
  have h_43 : rg 0 255 x_42 := by rw [ex_42]; exact ushr24 a1
  refine lv_sipush (v := 255) hx hb dX6_append_28 (by decide) ?_
  refine lv_iand hx hb dX6_append_31 ?_
  refine lv_topi (fun x_44 ex_44 => ?_)
  have h_45 : rg 0 255 x_44 := by rw [ex_44]; exact rg_and h_43 (by decide) (by decide) (by decide)
  have o_46 : rl 0 x_44 x_42 := by rw [ex_44]; exact rl_and h_43 (by decide)
  refine va_iast hx hb hK.1 hP hD hS 1 0 rfl rfl (rg_in i_h0_length (by decide) (by decide)) dX6_append_32 (fun H locs hP hD hS => ?_)
  obtain ⟨g_47, eg_47⟩ : ∃ y : Nat → Int32, y = upd F_h0_bytes (h0_length : Int32).toNatClampNeg (x_44 : Int32) := ⟨_, rfl⟩
  rw [← eg_47] at hP hD
  have s_48 : sg 0 940 0 255 g_47 := sg_val s_h0_bytes_0 eg_47 h_45
  have q_49 : eqs 937 940 g_47 F_h0_bytes := eqs_out (eqs_rf (a := 0) (b := 940) F_h0_bytes) eg_47 i_h0_length (by decide) (by decide) (by decide) (by decide)
  have hP : va_P D vwCl [(h0, .inr (6, [.ref h0_bytes, .int h0_length, .int h0_faultKind, .int h0_faultAt, .long h0_letters, .int h0_mostBytes, .int h0_behind, .int h0_at, .int h0_kind, .int h0_number])), (aI ca h0_bytes 940 g_47)] H := hP
  have hD : va_D A [(h0, .inr (6, [.ref h0_bytes, .int h0_length, .int h0_faultKind, .int h0_faultAt, .long h0_letters, .int h0_mostBytes, .int h0_behind, .int h0_at, .int h0_kind, .int h0_number])), (aI ca h0_bytes 940 g_47)] := hD
  refine lv_aload_n hx hb dX6_append_33 rfl (lv_at hl 1 rfl) ?_
  refine lv_dup hx hb dX6_append_34 rfl ?_
  refine va_get (D := D) (ci := 6) (v := .int h0_length) (C := RX6) (T := TX6) (N := 10) hx hb hts k2 hown hK.1 hP 0 rfl rfl 1 (by decide) k1 (fun _ h9 => h9) rfl dX6_append_35 ?_
  refine lv_iconst (v := 1) hx hb dX6_append_38 (by decide) ?_
  refine lv_iadd hx hb dX6_append_39 ?_
  refine lv_topi (fun x_50 ex_50 => ?_)
  have h_51 : rg 1 937 x_50 := by rw [ex_50]; exact rg_add i_h0_length (⟨by decide, by decide⟩ : rg 1 1 (1 : Int32)) (by decide) (by decide) (by decide) (by decide)
  have l_52 : lq x_50.toInt (h0_length.toInt + 1) := lqm (by rw [ex_50]; have q := tadd i_h0_length (⟨by decide, by decide⟩ : rg 1 1 (1 : Int32)) (by decide) (by decide); have r1 := lqe (lqm (by decide) : lq (1 : Int32).toInt 1); omega)
  refine va_put (D := D) (ci := 6) (v := .int x_50) (ty := .int) (C := RX6) (T := TX6) (N := 10) hx hb hts k2 tyX6 tyX6_ok nmX6 hown hK.1 hP hD hS 0 rfl rfl 1 (by decide) k1 (fun _ h9 => h9) rfl (by decide +kernel) rfl rfl (Nat.le_of_ble_eq_true rfl) dX6_append_40 (fun H locs hP hD hS => ?_)
  have hP : va_P D vwCl [(h0, .inr (6, [.ref h0_bytes, .int x_50, .int h0_faultKind, .int h0_faultAt, .long h0_letters, .int h0_mostBytes, .int h0_behind, .int h0_at, .int h0_kind, .int h0_number])), (aI ca h0_bytes 940 g_47)] H := hP
  have hD : va_D A [(h0, .inr (6, [.ref h0_bytes, .int x_50, .int h0_faultKind, .int h0_faultAt, .long h0_letters, .int h0_mostBytes, .int h0_behind, .int h0_at, .int h0_kind, .int h0_number])), (aI ca h0_bytes 940 g_47)] := hD
  refine lv_iinc (v := 16) (lv' := [(2, .int 16), (0, .ref h0), (1, .int a1)]) hx hb dX6_append_43 hl (k := 0) rfl (by decide) (by decide) rfl (fun ls hl => ?_)
  refine lv_goto (tgt := 3) hx hb dX6_append_46 (by decide) ?_
  refine lv_iload_n hx hb dX6_append_3 rfl (lv_at hl 0 rfl) ?_
  refine lv_if_lt (tgt := 49) hx hb dX6_append_4 (by decide) (fun c => absurd c (by decide)) (fun _ => ?_)
  refine lv_aload_n hx hb dX6_append_7 rfl (lv_at hl 1 rfl) ?_
  refine va_get (D := D) (ci := 6) (v := .int x_50) (C := RX6) (T := TX6) (N := 10) hx hb hts k2 hown hK.1 hP 0 rfl rfl 1 (by decide) k1 (fun _ h9 => h9) rfl dX6_append_8 ?_
  refine lv_sipush (v := 940) hx hb dX6_append_11 (by decide) ?_
  refine lv_icmp_ge (tgt := 49) hx hb dX6_append_14 (by decide) (fun c => absurd c (no_le (⟨by decide, by decide⟩ : rg 940 940 (940 : Int32)) h_51 (by decide))) (fun _ => ?_)
  refine lv_aload_n hx hb dX6_append_17 rfl (lv_at hl 1 rfl) ?_
  refine va_get (D := D) (ci := 6) (v := .ref h0_bytes) (C := RX6) (T := TX6) (N := 10) hx hb hts k2 hown hK.1 hP 0 rfl rfl 0 (by decide) k3 (fun _ h9 => h9) rfl dX6_append_18 ?_
  refine lv_aload_n hx hb dX6_append_21 rfl (lv_at hl 1 rfl) ?_
  refine va_get (D := D) (ci := 6) (v := .int x_50) (C := RX6) (T := TX6) (N := 10) hx hb hts k2 hown hK.1 hP 0 rfl rfl 1 (by decide) k1 (fun _ h9 => h9) rfl dX6_append_22 ?_
  refine lv_iload_n hx hb dX6_append_25 rfl (lv_at hl 2 rfl) ?_
  refine lv_iload_n hx hb dX6_append_26 rfl (lv_at hl 0 rfl) ?_
  refine lv_iushr hx hb dX6_append_27 rfl ?_
  refine lv_topi (fun x_53 ex_53 => ?_)
  have h_54 : rg 0 65535 x_53 := by rw [ex_53]; exact ushr16 a1
  refine lv_sipush (v := 255) hx hb dX6_append_28 (by decide) ?_
  refine lv_iand hx hb dX6_append_31 ?_
  refine lv_topi (fun x_55 ex_55 => ?_)
  have h_56 : rg 0 255 x_55 := by rw [ex_55]; exact rg_and' (⟨by decide, by decide⟩ : rg 255 255 (255 : Int32)) (by decide) (by decide) (by decide)
  have o_57 : rl 0 x_55 x_53 := by rw [ex_55]; exact rl_and h_54 (by decide)
  refine va_iast hx hb hK.1 hP hD hS 1 0 rfl rfl (rg_in h_51 (by decide) (by decide)) dX6_append_32 (fun H locs hP hD hS => ?_)
  obtain ⟨g_58, eg_58⟩ : ∃ y : Nat → Int32, y = upd g_47 (x_50 : Int32).toNatClampNeg (x_55 : Int32) := ⟨_, rfl⟩
  rw [← eg_58] at hP hD
  have s_59 : sg 0 940 0 255 g_58 := sg_val s_48 eg_58 h_56
  have q_60 : eqs 938 940 g_58 F_h0_bytes := eqs_out q_49 eg_58 h_51 (by decide) (by decide) (by decide) (by decide)
  have hP : va_P D vwCl [(h0, .inr (6, [.ref h0_bytes, .int x_50, .int h0_faultKind, .int h0_faultAt, .long h0_letters, .int h0_mostBytes, .int h0_behind, .int h0_at, .int h0_kind, .int h0_number])), (aI ca h0_bytes 940 g_58)] H := hP
  have hD : va_D A [(h0, .inr (6, [.ref h0_bytes, .int x_50, .int h0_faultKind, .int h0_faultAt, .long h0_letters, .int h0_mostBytes, .int h0_behind, .int h0_at, .int h0_kind, .int h0_number])), (aI ca h0_bytes 940 g_58)] := hD
  refine lv_aload_n hx hb dX6_append_33 rfl (lv_at hl 1 rfl) ?_
  refine lv_dup hx hb dX6_append_34 rfl ?_
  refine va_get (D := D) (ci := 6) (v := .int x_50) (C := RX6) (T := TX6) (N := 10) hx hb hts k2 hown hK.1 hP 0 rfl rfl 1 (by decide) k1 (fun _ h9 => h9) rfl dX6_append_35 ?_
  refine lv_iconst (v := 1) hx hb dX6_append_38 (by decide) ?_
  refine lv_iadd hx hb dX6_append_39 ?_
  refine lv_topi (fun x_61 ex_61 => ?_)
  have h_62 : rg 2 938 x_61 := by rw [ex_61]; exact rg_add h_51 (⟨by decide, by decide⟩ : rg 1 1 (1 : Int32)) (by decide) (by decide) (by decide) (by decide)
  have l_63 : lq x_61.toInt (h0_length.toInt + 2) := lqm (by rw [ex_61]; have q := tadd h_51 (⟨by decide, by decide⟩ : rg 1 1 (1 : Int32)) (by decide) (by decide); have r0 := lqe l_52; have r1 := lqe (lqm (by decide) : lq (1 : Int32).toInt 1); omega)
  refine va_put (D := D) (ci := 6) (v := .int x_61) (ty := .int) (C := RX6) (T := TX6) (N := 10) hx hb hts k2 tyX6 tyX6_ok nmX6 hown hK.1 hP hD hS 0 rfl rfl 1 (by decide) k1 (fun _ h9 => h9) rfl (by decide +kernel) rfl rfl (Nat.le_of_ble_eq_true rfl) dX6_append_40 (fun H locs hP hD hS => ?_)
  have hP : va_P D vwCl [(h0, .inr (6, [.ref h0_bytes, .int x_61, .int h0_faultKind, .int h0_faultAt, .long h0_letters, .int h0_mostBytes, .int h0_behind, .int h0_at, .int h0_kind, .int h0_number])), (aI ca h0_bytes 940 g_58)] H := hP
  have hD : va_D A [(h0, .inr (6, [.ref h0_bytes, .int x_61, .int h0_faultKind, .int h0_faultAt, .long h0_letters, .int h0_mostBytes, .int h0_behind, .int h0_at, .int h0_kind, .int h0_number])), (aI ca h0_bytes 940 g_58)] := hD
  refine lv_iinc (v := 8) (lv' := [(2, .int 8), (0, .ref h0), (1, .int a1)]) hx hb dX6_append_43 hl (k := 0) rfl (by decide) (by decide) rfl (fun ls hl => ?_)
  refine lv_goto (tgt := 3) hx hb dX6_append_46 (by decide) ?_
  refine lv_iload_n hx hb dX6_append_3 rfl (lv_at hl 0 rfl) ?_
  refine lv_if_lt (tgt := 49) hx hb dX6_append_4 (by decide) (fun c => absurd c (by decide)) (fun _ => ?_)
  refine lv_aload_n hx hb dX6_append_7 rfl (lv_at hl 1 rfl) ?_
  refine va_get (D := D) (ci := 6) (v := .int x_61) (C := RX6) (T := TX6) (N := 10) hx hb hts k2 hown hK.1 hP 0 rfl rfl 1 (by decide) k1 (fun _ h9 => h9) rfl dX6_append_8 ?_
  refine lv_sipush (v := 940) hx hb dX6_append_11 (by decide) ?_
  refine lv_icmp_ge (tgt := 49) hx hb dX6_append_14 (by decide) (fun c => absurd c (no_le (⟨by decide, by decide⟩ : rg 940 940 (940 : Int32)) h_62 (by decide))) (fun _ => ?_)
  refine lv_aload_n hx hb dX6_append_17 rfl (lv_at hl 1 rfl) ?_
  refine va_get (D := D) (ci := 6) (v := .ref h0_bytes) (C := RX6) (T := TX6) (N := 10) hx hb hts k2 hown hK.1 hP 0 rfl rfl 0 (by decide) k3 (fun _ h9 => h9) rfl dX6_append_18 ?_
  refine lv_aload_n hx hb dX6_append_21 rfl (lv_at hl 1 rfl) ?_
  refine va_get (D := D) (ci := 6) (v := .int x_61) (C := RX6) (T := TX6) (N := 10) hx hb hts k2 hown hK.1 hP 0 rfl rfl 1 (by decide) k1 (fun _ h9 => h9) rfl dX6_append_22 ?_
  refine lv_iload_n hx hb dX6_append_25 rfl (lv_at hl 2 rfl) ?_
  refine lv_iload_n hx hb dX6_append_26 rfl (lv_at hl 0 rfl) ?_
  refine lv_iushr hx hb dX6_append_27 rfl ?_
  refine lv_topi (fun x_64 ex_64 => ?_)
  have h_65 : rg 0 16777215 x_64 := by rw [ex_64]; exact ushr8 a1
  refine lv_sipush (v := 255) hx hb dX6_append_28 (by decide) ?_
  refine lv_iand hx hb dX6_append_31 ?_
  refine lv_topi (fun x_66 ex_66 => ?_)
  have h_67 : rg 0 255 x_66 := by rw [ex_66]; exact rg_and' (⟨by decide, by decide⟩ : rg 255 255 (255 : Int32)) (by decide) (by decide) (by decide)
  have o_68 : rl 0 x_66 x_64 := by rw [ex_66]; exact rl_and h_65 (by decide)
  refine va_iast hx hb hK.1 hP hD hS 1 0 rfl rfl (rg_in h_62 (by decide) (by decide)) dX6_append_32 (fun H locs hP hD hS => ?_)
  obtain ⟨g_69, eg_69⟩ : ∃ y : Nat → Int32, y = upd g_58 (x_61 : Int32).toNatClampNeg (x_66 : Int32) := ⟨_, rfl⟩
  rw [← eg_69] at hP hD
  have s_70 : sg 0 940 0 255 g_69 := sg_val s_59 eg_69 h_67
  have q_71 : eqs 939 940 g_69 F_h0_bytes := eqs_out q_60 eg_69 h_62 (by decide) (by decide) (by decide) (by decide)
  have hP : va_P D vwCl [(h0, .inr (6, [.ref h0_bytes, .int x_61, .int h0_faultKind, .int h0_faultAt, .long h0_letters, .int h0_mostBytes, .int h0_behind, .int h0_at, .int h0_kind, .int h0_number])), (aI ca h0_bytes 940 g_69)] H := hP
  have hD : va_D A [(h0, .inr (6, [.ref h0_bytes, .int x_61, .int h0_faultKind, .int h0_faultAt, .long h0_letters, .int h0_mostBytes, .int h0_behind, .int h0_at, .int h0_kind, .int h0_number])), (aI ca h0_bytes 940 g_69)] := hD
  refine lv_aload_n hx hb dX6_append_33 rfl (lv_at hl 1 rfl) ?_
  refine lv_dup hx hb dX6_append_34 rfl ?_
  refine va_get (D := D) (ci := 6) (v := .int x_61) (C := RX6) (T := TX6) (N := 10) hx hb hts k2 hown hK.1 hP 0 rfl rfl 1 (by decide) k1 (fun _ h9 => h9) rfl dX6_append_35 ?_
  refine lv_iconst (v := 1) hx hb dX6_append_38 (by decide) ?_
  refine lv_iadd hx hb dX6_append_39 ?_
  refine lv_topi (fun x_72 ex_72 => ?_)
  have h_73 : rg 3 939 x_72 := by rw [ex_72]; exact rg_add h_62 (⟨by decide, by decide⟩ : rg 1 1 (1 : Int32)) (by decide) (by decide) (by decide) (by decide)
  have l_74 : lq x_72.toInt (h0_length.toInt + 3) := lqm (by rw [ex_72]; have q := tadd h_62 (⟨by decide, by decide⟩ : rg 1 1 (1 : Int32)) (by decide) (by decide); have r0 := lqe l_63; have r1 := lqe (lqm (by decide) : lq (1 : Int32).toInt 1); omega)
  refine va_put (D := D) (ci := 6) (v := .int x_72) (ty := .int) (C := RX6) (T := TX6) (N := 10) hx hb hts k2 tyX6 tyX6_ok nmX6 hown hK.1 hP hD hS 0 rfl rfl 1 (by decide) k1 (fun _ h9 => h9) rfl (by decide +kernel) rfl rfl (Nat.le_of_ble_eq_true rfl) dX6_append_40 (fun H locs hP hD hS => ?_)
  have hP : va_P D vwCl [(h0, .inr (6, [.ref h0_bytes, .int x_72, .int h0_faultKind, .int h0_faultAt, .long h0_letters, .int h0_mostBytes, .int h0_behind, .int h0_at, .int h0_kind, .int h0_number])), (aI ca h0_bytes 940 g_69)] H := hP
  have hD : va_D A [(h0, .inr (6, [.ref h0_bytes, .int x_72, .int h0_faultKind, .int h0_faultAt, .long h0_letters, .int h0_mostBytes, .int h0_behind, .int h0_at, .int h0_kind, .int h0_number])), (aI ca h0_bytes 940 g_69)] := hD
  refine lv_iinc (v := 0) (lv' := [(2, .int 0), (0, .ref h0), (1, .int a1)]) hx hb dX6_append_43 hl (k := 0) rfl (by decide) (by decide) rfl (fun ls hl => ?_)
  refine lv_goto (tgt := 3) hx hb dX6_append_46 (by decide) ?_
  refine lv_iload_n hx hb dX6_append_3 rfl (lv_at hl 0 rfl) ?_
  refine lv_if_lt (tgt := 49) hx hb dX6_append_4 (by decide) (fun c => absurd c (by decide)) (fun _ => ?_)
  refine lv_aload_n hx hb dX6_append_7 rfl (lv_at hl 1 rfl) ?_
  refine va_get (D := D) (ci := 6) (v := .int x_72) (C := RX6) (T := TX6) (N := 10) hx hb hts k2 hown hK.1 hP 0 rfl rfl 1 (by decide) k1 (fun _ h9 => h9) rfl dX6_append_8 ?_
  refine lv_sipush (v := 940) hx hb dX6_append_11 (by decide) ?_
  refine lv_icmp_ge (tgt := 49) hx hb dX6_append_14 (by decide) (fun c => absurd c (no_le (⟨by decide, by decide⟩ : rg 940 940 (940 : Int32)) h_73 (by decide))) (fun _ => ?_)
  refine lv_aload_n hx hb dX6_append_17 rfl (lv_at hl 1 rfl) ?_
  refine va_get (D := D) (ci := 6) (v := .ref h0_bytes) (C := RX6) (T := TX6) (N := 10) hx hb hts k2 hown hK.1 hP 0 rfl rfl 0 (by decide) k3 (fun _ h9 => h9) rfl dX6_append_18 ?_
  refine lv_aload_n hx hb dX6_append_21 rfl (lv_at hl 1 rfl) ?_
  refine va_get (D := D) (ci := 6) (v := .int x_72) (C := RX6) (T := TX6) (N := 10) hx hb hts k2 hown hK.1 hP 0 rfl rfl 1 (by decide) k1 (fun _ h9 => h9) rfl dX6_append_22 ?_
  refine lv_iload_n hx hb dX6_append_25 rfl (lv_at hl 2 rfl) ?_
  refine lv_iload_n hx hb dX6_append_26 rfl (lv_at hl 0 rfl) ?_
  refine lv_iushr hx hb dX6_append_27 rfl ?_
  refine lv_topi (fun x_75 ex_75 => ?_)
  refine lv_sipush (v := 255) hx hb dX6_append_28 (by decide) ?_
  refine lv_iand hx hb dX6_append_31 ?_
  refine lv_topi (fun x_76 ex_76 => ?_)
  have h_77 : rg 0 255 x_76 := by rw [ex_76]; exact rg_and' (⟨by decide, by decide⟩ : rg 255 255 (255 : Int32)) (by decide) (by decide) (by decide)
  refine va_iast hx hb hK.1 hP hD hS 1 0 rfl rfl (rg_in h_73 (by decide) (by decide)) dX6_append_32 (fun H locs hP hD hS => ?_)
  obtain ⟨g_78, eg_78⟩ : ∃ y : Nat → Int32, y = upd g_69 (x_72 : Int32).toNatClampNeg (x_76 : Int32) := ⟨_, rfl⟩
  rw [← eg_78] at hP hD
  have s_79 : sg 0 940 0 255 g_78 := sg_val s_70 eg_78 h_77
  have hP : va_P D vwCl [(h0, .inr (6, [.ref h0_bytes, .int x_72, .int h0_faultKind, .int h0_faultAt, .long h0_letters, .int h0_mostBytes, .int h0_behind, .int h0_at, .int h0_kind, .int h0_number])), (aI ca h0_bytes 940 g_78)] H := hP
  have hD : va_D A [(h0, .inr (6, [.ref h0_bytes, .int x_72, .int h0_faultKind, .int h0_faultAt, .long h0_letters, .int h0_mostBytes, .int h0_behind, .int h0_at, .int h0_kind, .int h0_number])), (aI ca h0_bytes 940 g_78)] := hD
  refine lv_aload_n hx hb dX6_append_33 rfl (lv_at hl 1 rfl) ?_
  refine lv_dup hx hb dX6_append_34 rfl ?_
  refine va_get (D := D) (ci := 6) (v := .int x_72) (C := RX6) (T := TX6) (N := 10) hx hb hts k2 hown hK.1 hP 0 rfl rfl 1 (by decide) k1 (fun _ h9 => h9) rfl dX6_append_35 ?_
  refine lv_iconst (v := 1) hx hb dX6_append_38 (by decide) ?_
  refine lv_iadd hx hb dX6_append_39 ?_
  refine lv_topi (fun x_80 ex_80 => ?_)
  have h_81 : rg 4 940 x_80 := by rw [ex_80]; exact rg_add h_73 (⟨by decide, by decide⟩ : rg 1 1 (1 : Int32)) (by decide) (by decide) (by decide) (by decide)
  have l_82 : lq x_80.toInt (h0_length.toInt + 4) := lqm (by rw [ex_80]; have q := tadd h_73 (⟨by decide, by decide⟩ : rg 1 1 (1 : Int32)) (by decide) (by decide); have r0 := lqe l_74; have r1 := lqe (lqm (by decide) : lq (1 : Int32).toInt 1); omega)
  refine va_put (D := D) (ci := 6) (v := .int x_80) (ty := .int) (C := RX6) (T := TX6) (N := 10) hx hb hts k2 tyX6 tyX6_ok nmX6 hown hK.1 hP hD hS 0 rfl rfl 1 (by decide) k1 (fun _ h9 => h9) rfl (by decide +kernel) rfl rfl (Nat.le_of_ble_eq_true rfl) dX6_append_40 (fun H locs hP hD hS => ?_)
  have hP : va_P D vwCl [(h0, .inr (6, [.ref h0_bytes, .int x_80, .int h0_faultKind, .int h0_faultAt, .long h0_letters, .int h0_mostBytes, .int h0_behind, .int h0_at, .int h0_kind, .int h0_number])), (aI ca h0_bytes 940 g_78)] H := hP
  have hD : va_D A [(h0, .inr (6, [.ref h0_bytes, .int x_80, .int h0_faultKind, .int h0_faultAt, .long h0_letters, .int h0_mostBytes, .int h0_behind, .int h0_at, .int h0_kind, .int h0_number])), (aI ca h0_bytes 940 g_78)] := hD
  refine lv_iinc (v := (-8)) (lv' := [(2, .int (-8)), (0, .ref h0), (1, .int a1)]) hx hb dX6_append_43 hl (k := 0) rfl (by decide) (by decide) rfl (fun ls hl => ?_)
  refine lv_goto (tgt := 3) hx hb dX6_append_46 (by decide) ?_
  refine lv_iload_n hx hb dX6_append_3 rfl (lv_at hl 0 rfl) ?_
  refine lv_if_lt (tgt := 49) hx hb dX6_append_4 (by decide) (fun _ => ?_) (fun c => absurd (by decide) c)
  exact oE_v hx hb hr hlocks hP hD hS (x_80, g_78) [0, 1] rfl (by decide) ⟨h_81, s_79, (show rl 4 h0_length x_80 from rlm (by have q0 := lqe l_82; omega)), (show rl (-4) x_80 h0_length from rlm (by have q0 := lqe l_82; omega))⟩ (Nat.le_of_ble_eq_true rfl) (Nat.le_of_ble_eq_true rfl) dX6_append_49
theorem dX11_feed_0 : decode cX11_feed 0 = .ok (.aload_n 0, 1) := by decide +kernel
theorem dX11_feed_1 : decode cX11_feed 1 = .ok (.getfield 10, 3) := by decide +kernel
theorem dX11_feed_4 : decode cX11_feed 4 = .ok (.getfield 102, 3) := by decide +kernel
theorem dX11_feed_7 : decode cX11_feed 7 = .ok (.bipush 20, 2) := by decide +kernel
theorem dX11_feed_9 : decode cX11_feed 9 = .ok (.iadd, 1) := by decide +kernel
theorem dX11_feed_10 : decode cX11_feed 10 = .ok (.sipush 940, 3) := by decide +kernel
theorem dX11_feed_13 : decode cX11_feed 13 = .ok (.if_icmp .le 5, 3) := by decide +kernel
theorem dX11_feed_16 : decode cX11_feed 16 = .ok (.iconst (-1), 1) := by decide +kernel
theorem dX11_feed_17 : decode cX11_feed 17 = .ok (.ireturn, 1) := by decide +kernel
theorem dX11_feed_18 : decode cX11_feed 18 = .ok (.aload_n 0, 1) := by decide +kernel
theorem dX11_feed_19 : decode cX11_feed 19 = .ok (.getfield 10, 3) := by decide +kernel
theorem dX11_feed_22 : decode cX11_feed 22 = .ok (.iload_n 1, 1) := by decide +kernel
theorem dX11_feed_23 : decode cX11_feed 23 = .ok (.invokevirtual 106, 3) := by decide +kernel
theorem dX11_feed_26 : decode cX11_feed 26 = .ok (.aload_n 0, 1) := by decide +kernel
theorem dX11_feed_27 : decode cX11_feed 27 = .ok (.getfield 10, 3) := by decide +kernel
theorem dX11_feed_30 : decode cX11_feed 30 = .ok (.iload_n 2, 1) := by decide +kernel
theorem dX11_feed_31 : decode cX11_feed 31 = .ok (.invokevirtual 106, 3) := by decide +kernel
theorem dX11_feed_34 : decode cX11_feed 34 = .ok (.aload_n 0, 1) := by decide +kernel
theorem dX11_feed_35 : decode cX11_feed 35 = .ok (.getfield 10, 3) := by decide +kernel
theorem dX11_feed_38 : decode cX11_feed 38 = .ok (.iload_n 3, 1) := by decide +kernel
theorem dX11_feed_39 : decode cX11_feed 39 = .ok (.invokevirtual 106, 3) := by decide +kernel
theorem dX11_feed_42 : decode cX11_feed 42 = .ok (.aload_n 0, 1) := by decide +kernel
theorem dX11_feed_43 : decode cX11_feed 43 = .ok (.getfield 10, 3) := by decide +kernel
theorem dX11_feed_46 : decode cX11_feed 46 = .ok (.iload 4, 2) := by decide +kernel
theorem dX11_feed_48 : decode cX11_feed 48 = .ok (.invokevirtual 106, 3) := by decide +kernel
theorem dX11_feed_51 : decode cX11_feed 51 = .ok (.aload_n 0, 1) := by decide +kernel
theorem dX11_feed_52 : decode cX11_feed 52 = .ok (.getfield 10, 3) := by decide +kernel
theorem dX11_feed_55 : decode cX11_feed 55 = .ok (.iload 5, 2) := by decide +kernel
theorem dX11_feed_57 : decode cX11_feed 57 = .ok (.invokevirtual 106, 3) := by decide +kernel
theorem dX11_feed_60 : decode cX11_feed 60 = .ok (.aload_n 0, 1) := by decide +kernel
theorem dX11_feed_61 : decode cX11_feed 61 = .ok (.getfield 10, 3) := by decide +kernel
theorem dX11_feed_64 : decode cX11_feed 64 = .ok (.getfield 102, 3) := by decide +kernel
theorem dX11_feed_67 : decode cX11_feed 67 = .ok (.ireturn, 1) := by decide +kernel
set_option maxRecDepth 20000 in
theorem ggX11_feed_X6_append : GoodIn wsX11_feed wsX6_append := goodIn_r _ [7, 8, 9, 25, 26, 27, 28, 29, 30, 31, 32, 33, 34] rfl (by decide +kernel)
set_option maxRecDepth 20000 in
theorem gX11_feed_X6_append : GoodIn wsX11_feed (wsV RX11 106 RX6 yX6_append wsX6_append) := goodIn_app (goodIn_of _ (by decide +kernel)) ggX11_feed_X6_append
set_option maxHeartbeats 4000000 in
set_option maxRecDepth 100000 in
theorem s_X11_feed (l : Launch) (D : va_G) (ca : Nat → ClassId) (sz : Nat) (h0 : Nat) (a1 : Int32) (a2 : Int32) (a3 : Int32) (a4 : Int32) (a5 : Int32) (h0_tape : Nat) (h0_law : Nat) (h0_standing : Nat) (h0_saying : Nat) (h0_courtReader : Nat) (h0_bookReader : Nat) (h0_sentenceReader : Nat) (h0_bench : Nat) (h0_whatIf : Nat) (h0_history : Nat) (h0_images : Nat) (h0_latest : Nat) (h0_latestBook : Nat) (h0_latestRoll : Nat) (h0_rollLength : Int32) (h0_tape_bytes : Nat) (h0_tape_length : Int32) (h0_tape_faultKind : Int32) (h0_tape_faultAt : Int32) (h0_tape_letters : Int64) (h0_tape_mostBytes : Int32) (h0_tape_behind : Int32) (h0_tape_at : Int32) (h0_tape_kind : Int32) (h0_tape_number : Int32) (F_h0_tape_bytes : Nat → Int32) (i_h0_rollLength : rg 0 40 h0_rollLength) (i_h0_tape_length : rg 0 940 h0_tape_length) (i_h0_tape_faultKind : rg 0 4 h0_tape_faultKind) (i_h0_tape_behind : rg 0 940 h0_tape_behind) (s_h0_tape_bytes_0 : sg 0 940 0 255 F_h0_tape_bytes) : oMet l yX11_feed wsX11_feed ({ frames := 1, cells := 0, slots := 0, locals := 22 } : Room) [.ref h0, .int a1, .int a2, .int a3, .int a4, .int a5] D ca sz [(h0, .inr (10, [.ref h0_tape, .ref h0_law, .ref h0_standing, .ref h0_saying, .ref h0_courtReader, .ref h0_bookReader, .ref h0_sentenceReader, .ref h0_bench, .ref h0_whatIf, .ref h0_history, .ref h0_images, .ref h0_latest, .ref h0_latestBook, .ref h0_latestRoll, .int h0_rollLength])), (h0_tape, .inr (6, [.ref h0_tape_bytes, .int h0_tape_length, .int h0_tape_faultKind, .int h0_tape_faultAt, .long h0_tape_letters, .int h0_tape_mostBytes, .int h0_tape_behind, .int h0_tape_at, .int h0_tape_kind, .int h0_tape_number])), (aI ca h0_tape_bytes 940 F_h0_tape_bytes)] (oQi D (fun (r : Int32) (u : Int32 × (Nat → Int32)) => (rg (-1) 940 r) ∧ (rg 0 940 u.1) ∧ (sg 0 940 0 255 u.2) ∧ (rl 0 h0_tape_length u.1)) (fun (u : Int32 × (Nat → Int32)) => [(h0, .inr (10, [.ref h0_tape, .ref h0_law, .ref h0_standing, .ref h0_saying, .ref h0_courtReader, .ref h0_bookReader, .ref h0_sentenceReader, .ref h0_bench, .ref h0_whatIf, .ref h0_history, .ref h0_images, .ref h0_latest, .ref h0_latestBook, .ref h0_latestRoll, .int h0_rollLength])), (h0_tape, .inr (6, [.ref h0_tape_bytes, .int u.1, .int h0_tape_faultKind, .int h0_tape_faultAt, .long h0_tape_letters, .int h0_tape_mostBytes, .int h0_tape_behind, .int h0_tape_at, .int h0_tape_kind, .int h0_tape_number])), (aI ca h0_tape_bytes 940 u.2)])) 0 0 := by
  refine oM (cc := cX11_feed) (maxL := 6) (ret := (some .int)) (by decide) rfl (Nat.le_of_ble_eq_true rfl) [(0, .ref h0), (1, .int a1), (2, .int a2), (3, .int a3), (4, .int a4), (5, .int a5)] rfl ?_
  intro p e s m below meth c A H locs ls hx hb hr hml hts hown hlocks hin hK hP hD hA hS hl
  have hown : s.vm.findClass RX11 = some m.cls := hown
  have k1 := hts (.fieldLink RX11 10 "LidCourt" "tape" "LLidCourt$Reader;") (by decide +kernel)
  have k2 : ∀ w ∈ wsX110, w ∈ wsX11_feed := fun _ h => List.mem_cons_of_mem _ (List.mem_append_left _ (List.mem_append_right _ h))
  have k3 := hts (.fieldLink RX11 102 "LidCourt$Reader" "length" "I") (by decide +kernel)
  have k4 : ∀ w ∈ wsX60, w ∈ wsX11_feed := fun _ h => List.mem_cons_of_mem _ (List.mem_append_right _ h)
  refine lv_aload_n hx hb dX11_feed_0 rfl (lv_at hl 0 rfl) ?_
  refine va_get (D := D) (ci := 10) (v := .ref h0_tape) (C := RX11) (T := TX11) (N := 15) hx hb hts k2 hown hK.1 hP 0 rfl rfl 0 (by decide) k1 (fun _ h9 => h9) rfl dX11_feed_1 ?_
  refine va_get (D := D) (ci := 6) (v := .int h0_tape_length) (C := RX6) (T := TX6) (N := 10) hx hb hts k4 hown hK.1 hP 1 rfl rfl 1 (by decide) k3 (fun _ h9 => h9) rfl dX11_feed_4 ?_
  refine lv_bipush (v := 20) hx hb dX11_feed_7 (by decide) ?_
  refine lv_iadd hx hb dX11_feed_9 ?_
  refine lv_topi (fun x_46 ex_46 => ?_)
  have h_47 : rg 20 960 x_46 := by rw [ex_46]; exact rg_add i_h0_tape_length (⟨by decide, by decide⟩ : rg 20 20 (20 : Int32)) (by decide) (by decide) (by decide) (by decide)
  have l_48 : lq x_46.toInt (h0_tape_length.toInt + 20) := lqm (by rw [ex_46]; have q := tadd i_h0_tape_length (⟨by decide, by decide⟩ : rg 20 20 (20 : Int32)) (by decide) (by decide); have r1 := lqe (lqm (by decide) : lq (20 : Int32).toInt 20); omega)
  refine lv_sipush (v := 940) hx hb dX11_feed_10 (by decide) ?_
  refine lv_icmp_le (tgt := 18) hx hb dX11_feed_13 (by decide) (fun c_49 => ?_) (fun c_49 => ?_)
  · skip
    have o_50 : rl 0 x_46 940 := rl_le c_49
    have h_51 : rg 20 940 x_46 := rl_x o_50 h_47 (⟨by decide, by decide⟩ : rg 940 940 (940 : Int32)) (by decide) (by decide)
    have h_52 : rg 0 920 h0_tape_length := ⟨by have q := lqe l_48; have q1 := (h_51).1; have q2 := (i_h0_tape_length).1; omega, by have q := lqe l_48; have q1 := (h_51).2; have q2 := (i_h0_tape_length).2; omega⟩
    refine lv_aload_n hx hb dX11_feed_18 rfl (lv_at hl 0 rfl) ?_
    refine va_get (D := D) (ci := 10) (v := .ref h0_tape) (C := RX11) (T := TX11) (N := 15) hx hb hts k2 hown hK.1 hP 0 rfl rfl 0 (by decide) k1 (fun _ h9 => h9) rfl dX11_feed_19 ?_
    refine lv_iload_n hx hb dX11_feed_22 rfl (lv_at hl 1 rfl) ?_
    refine oC_v (Wc := [(h0_tape, .inr (6, [.ref h0_tape_bytes, .int h0_tape_length, .int h0_tape_faultKind, .int h0_tape_faultAt, .long h0_tape_letters, .int h0_tape_mostBytes, .int h0_tape_behind, .int h0_tape_at, .int h0_tape_kind, .int h0_tape_number])), (aI ca h0_tape_bytes 940 F_h0_tape_bytes)]) (Wr := [(h0, .inr (10, [.ref h0_tape, .ref h0_law, .ref h0_standing, .ref h0_saying, .ref h0_courtReader, .ref h0_bookReader, .ref h0_sentenceReader, .ref h0_bench, .ref h0_whatIf, .ref h0_history, .ref h0_images, .ref h0_latest, .ref h0_latestBook, .ref h0_latestRoll, .int h0_rollLength]))]) (va_runV (As := [.int a1]) (rest := []) ⟨hx, hb, hml, hown, hts⟩ (s_X6_append l D ca H.size h0_tape a1 h0_tape_bytes h0_tape_length h0_tape_faultKind h0_tape_faultAt h0_tape_letters h0_tape_mostBytes h0_tape_behind h0_tape_at h0_tape_kind h0_tape_number F_h0_tape_bytes (rgw (lo := 0) (hi := 940) h_52 (by decide) (by decide)) i_h0_tape_faultKind i_h0_tape_behind s_h0_tape_bytes_0) (cwV 1 hts gX11_feed_X6_append rfl rfl rfl (by decide +kernel) ⟨Nat.le_of_ble_eq_true rfl, Nat.le_of_ble_eq_true rfl⟩) (oPV (C := RX6) hK hP hD [1, 2] rfl (by decide) 0 rfl (ci := 6) rfl rfl) rfl rfl hl.1 rfl (lv_room (Nat.le_of_ble_eq_true rfl)) dX11_feed_23 ⟨Nat.le_of_ble_eq_true rfl, Nat.le_of_ble_eq_true rfl⟩) hP hD hS hA [1, 2] [0] rfl rfl (by decide) (by decide) (fun u H locs w_54 hP hD hS => ?_)
    obtain ⟨u_55, u_56⟩ := u
    have hP : va_P D vwCl [(h0, .inr (10, [.ref h0_tape, .ref h0_law, .ref h0_standing, .ref h0_saying, .ref h0_courtReader, .ref h0_bookReader, .ref h0_sentenceReader, .ref h0_bench, .ref h0_whatIf, .ref h0_history, .ref h0_images, .ref h0_latest, .ref h0_latestBook, .ref h0_latestRoll, .int h0_rollLength])), (h0_tape, .inr (6, [.ref h0_tape_bytes, .int u_55, .int h0_tape_faultKind, .int h0_tape_faultAt, .long h0_tape_letters, .int h0_tape_mostBytes, .int h0_tape_behind, .int h0_tape_at, .int h0_tape_kind, .int h0_tape_number])), (aI ca h0_tape_bytes 940 u_56)] H := hP
    have hD : va_D A [(h0, .inr (10, [.ref h0_tape, .ref h0_law, .ref h0_standing, .ref h0_saying, .ref h0_courtReader, .ref h0_bookReader, .ref h0_sentenceReader, .ref h0_bench, .ref h0_whatIf, .ref h0_history, .ref h0_images, .ref h0_latest, .ref h0_latestBook, .ref h0_latestRoll, .int h0_rollLength])), (h0_tape, .inr (6, [.ref h0_tape_bytes, .int u_55, .int h0_tape_faultKind, .int h0_tape_faultAt, .long h0_tape_letters, .int h0_tape_mostBytes, .int h0_tape_behind, .int h0_tape_at, .int h0_tape_kind, .int h0_tape_number])), (aI ca h0_tape_bytes 940 u_56)] := hD
    try dsimp only at w_54
    obtain ⟨h_57, h_58, h_59⟩ := w_54
    refine lv_aload_n hx hb dX11_feed_26 rfl (lv_at hl 0 rfl) ?_
    refine va_get (D := D) (ci := 10) (v := .ref h0_tape) (C := RX11) (T := TX11) (N := 15) hx hb hts k2 hown hK.1 hP 0 rfl rfl 0 (by decide) k1 (fun _ h9 => h9) rfl dX11_feed_27 ?_
    refine lv_iload_n hx hb dX11_feed_30 rfl (lv_at hl 2 rfl) ?_
    refine oC_v (Wc := [(h0_tape, .inr (6, [.ref h0_tape_bytes, .int u_55, .int h0_tape_faultKind, .int h0_tape_faultAt, .long h0_tape_letters, .int h0_tape_mostBytes, .int h0_tape_behind, .int h0_tape_at, .int h0_tape_kind, .int h0_tape_number])), (aI ca h0_tape_bytes 940 u_56)]) (Wr := [(h0, .inr (10, [.ref h0_tape, .ref h0_law, .ref h0_standing, .ref h0_saying, .ref h0_courtReader, .ref h0_bookReader, .ref h0_sentenceReader, .ref h0_bench, .ref h0_whatIf, .ref h0_history, .ref h0_images, .ref h0_latest, .ref h0_latestBook, .ref h0_latestRoll, .int h0_rollLength]))]) (va_runV (As := [.int a2]) (rest := []) ⟨hx, hb, hml, hown, hts⟩ (s_X6_append l D ca H.size h0_tape a2 h0_tape_bytes u_55 h0_tape_faultKind h0_tape_faultAt h0_tape_letters h0_tape_mostBytes h0_tape_behind h0_tape_at h0_tape_kind h0_tape_number u_56 h_57 i_h0_tape_faultKind i_h0_tape_behind h_58) (cwV 1 hts gX11_feed_X6_append rfl rfl rfl (by decide +kernel) ⟨Nat.le_of_ble_eq_true rfl, Nat.le_of_ble_eq_true rfl⟩) (oPV (C := RX6) hK hP hD [1, 2] rfl (by decide) 0 rfl (ci := 6) rfl rfl) rfl rfl hl.1 rfl (lv_room (Nat.le_of_ble_eq_true rfl)) dX11_feed_31 ⟨Nat.le_of_ble_eq_true rfl, Nat.le_of_ble_eq_true rfl⟩) hP hD hS hA [1, 2] [0] rfl rfl (by decide) (by decide) (fun u H locs w_61 hP hD hS => ?_)
    obtain ⟨u_62, u_63⟩ := u
    have hP : va_P D vwCl [(h0, .inr (10, [.ref h0_tape, .ref h0_law, .ref h0_standing, .ref h0_saying, .ref h0_courtReader, .ref h0_bookReader, .ref h0_sentenceReader, .ref h0_bench, .ref h0_whatIf, .ref h0_history, .ref h0_images, .ref h0_latest, .ref h0_latestBook, .ref h0_latestRoll, .int h0_rollLength])), (h0_tape, .inr (6, [.ref h0_tape_bytes, .int u_62, .int h0_tape_faultKind, .int h0_tape_faultAt, .long h0_tape_letters, .int h0_tape_mostBytes, .int h0_tape_behind, .int h0_tape_at, .int h0_tape_kind, .int h0_tape_number])), (aI ca h0_tape_bytes 940 u_63)] H := hP
    have hD : va_D A [(h0, .inr (10, [.ref h0_tape, .ref h0_law, .ref h0_standing, .ref h0_saying, .ref h0_courtReader, .ref h0_bookReader, .ref h0_sentenceReader, .ref h0_bench, .ref h0_whatIf, .ref h0_history, .ref h0_images, .ref h0_latest, .ref h0_latestBook, .ref h0_latestRoll, .int h0_rollLength])), (h0_tape, .inr (6, [.ref h0_tape_bytes, .int u_62, .int h0_tape_faultKind, .int h0_tape_faultAt, .long h0_tape_letters, .int h0_tape_mostBytes, .int h0_tape_behind, .int h0_tape_at, .int h0_tape_kind, .int h0_tape_number])), (aI ca h0_tape_bytes 940 u_63)] := hD
    try dsimp only at w_61
    obtain ⟨h_64, h_65, h_66⟩ := w_61
    refine lv_aload_n hx hb dX11_feed_34 rfl (lv_at hl 0 rfl) ?_
    refine va_get (D := D) (ci := 10) (v := .ref h0_tape) (C := RX11) (T := TX11) (N := 15) hx hb hts k2 hown hK.1 hP 0 rfl rfl 0 (by decide) k1 (fun _ h9 => h9) rfl dX11_feed_35 ?_
    refine lv_iload_n hx hb dX11_feed_38 rfl (lv_at hl 3 rfl) ?_
    refine oC_v (Wc := [(h0_tape, .inr (6, [.ref h0_tape_bytes, .int u_62, .int h0_tape_faultKind, .int h0_tape_faultAt, .long h0_tape_letters, .int h0_tape_mostBytes, .int h0_tape_behind, .int h0_tape_at, .int h0_tape_kind, .int h0_tape_number])), (aI ca h0_tape_bytes 940 u_63)]) (Wr := [(h0, .inr (10, [.ref h0_tape, .ref h0_law, .ref h0_standing, .ref h0_saying, .ref h0_courtReader, .ref h0_bookReader, .ref h0_sentenceReader, .ref h0_bench, .ref h0_whatIf, .ref h0_history, .ref h0_images, .ref h0_latest, .ref h0_latestBook, .ref h0_latestRoll, .int h0_rollLength]))]) (va_runV (As := [.int a3]) (rest := []) ⟨hx, hb, hml, hown, hts⟩ (s_X6_append l D ca H.size h0_tape a3 h0_tape_bytes u_62 h0_tape_faultKind h0_tape_faultAt h0_tape_letters h0_tape_mostBytes h0_tape_behind h0_tape_at h0_tape_kind h0_tape_number u_63 h_64 i_h0_tape_faultKind i_h0_tape_behind h_65) (cwV 1 hts gX11_feed_X6_append rfl rfl rfl (by decide +kernel) ⟨Nat.le_of_ble_eq_true rfl, Nat.le_of_ble_eq_true rfl⟩) (oPV (C := RX6) hK hP hD [1, 2] rfl (by decide) 0 rfl (ci := 6) rfl rfl) rfl rfl hl.1 rfl (lv_room (Nat.le_of_ble_eq_true rfl)) dX11_feed_39 ⟨Nat.le_of_ble_eq_true rfl, Nat.le_of_ble_eq_true rfl⟩) hP hD hS hA [1, 2] [0] rfl rfl (by decide) (by decide) (fun u H locs w_68 hP hD hS => ?_)
    obtain ⟨u_69, u_70⟩ := u
    have hP : va_P D vwCl [(h0, .inr (10, [.ref h0_tape, .ref h0_law, .ref h0_standing, .ref h0_saying, .ref h0_courtReader, .ref h0_bookReader, .ref h0_sentenceReader, .ref h0_bench, .ref h0_whatIf, .ref h0_history, .ref h0_images, .ref h0_latest, .ref h0_latestBook, .ref h0_latestRoll, .int h0_rollLength])), (h0_tape, .inr (6, [.ref h0_tape_bytes, .int u_69, .int h0_tape_faultKind, .int h0_tape_faultAt, .long h0_tape_letters, .int h0_tape_mostBytes, .int h0_tape_behind, .int h0_tape_at, .int h0_tape_kind, .int h0_tape_number])), (aI ca h0_tape_bytes 940 u_70)] H := hP
    have hD : va_D A [(h0, .inr (10, [.ref h0_tape, .ref h0_law, .ref h0_standing, .ref h0_saying, .ref h0_courtReader, .ref h0_bookReader, .ref h0_sentenceReader, .ref h0_bench, .ref h0_whatIf, .ref h0_history, .ref h0_images, .ref h0_latest, .ref h0_latestBook, .ref h0_latestRoll, .int h0_rollLength])), (h0_tape, .inr (6, [.ref h0_tape_bytes, .int u_69, .int h0_tape_faultKind, .int h0_tape_faultAt, .long h0_tape_letters, .int h0_tape_mostBytes, .int h0_tape_behind, .int h0_tape_at, .int h0_tape_kind, .int h0_tape_number])), (aI ca h0_tape_bytes 940 u_70)] := hD
    try dsimp only at w_68
    obtain ⟨h_71, h_72, h_73⟩ := w_68
    refine lv_aload_n hx hb dX11_feed_42 rfl (lv_at hl 0 rfl) ?_
    refine va_get (D := D) (ci := 10) (v := .ref h0_tape) (C := RX11) (T := TX11) (N := 15) hx hb hts k2 hown hK.1 hP 0 rfl rfl 0 (by decide) k1 (fun _ h9 => h9) rfl dX11_feed_43 ?_
    refine lv_iload hx hb dX11_feed_46 (lv_at hl 4 rfl) ?_
    refine oC_v (Wc := [(h0_tape, .inr (6, [.ref h0_tape_bytes, .int u_69, .int h0_tape_faultKind, .int h0_tape_faultAt, .long h0_tape_letters, .int h0_tape_mostBytes, .int h0_tape_behind, .int h0_tape_at, .int h0_tape_kind, .int h0_tape_number])), (aI ca h0_tape_bytes 940 u_70)]) (Wr := [(h0, .inr (10, [.ref h0_tape, .ref h0_law, .ref h0_standing, .ref h0_saying, .ref h0_courtReader, .ref h0_bookReader, .ref h0_sentenceReader, .ref h0_bench, .ref h0_whatIf, .ref h0_history, .ref h0_images, .ref h0_latest, .ref h0_latestBook, .ref h0_latestRoll, .int h0_rollLength]))]) (va_runV (As := [.int a4]) (rest := []) ⟨hx, hb, hml, hown, hts⟩ (s_X6_append l D ca H.size h0_tape a4 h0_tape_bytes u_69 h0_tape_faultKind h0_tape_faultAt h0_tape_letters h0_tape_mostBytes h0_tape_behind h0_tape_at h0_tape_kind h0_tape_number u_70 h_71 i_h0_tape_faultKind i_h0_tape_behind h_72) (cwV 1 hts gX11_feed_X6_append rfl rfl rfl (by decide +kernel) ⟨Nat.le_of_ble_eq_true rfl, Nat.le_of_ble_eq_true rfl⟩) (oPV (C := RX6) hK hP hD [1, 2] rfl (by decide) 0 rfl (ci := 6) rfl rfl) rfl rfl hl.1 rfl (lv_room (Nat.le_of_ble_eq_true rfl)) dX11_feed_48 ⟨Nat.le_of_ble_eq_true rfl, Nat.le_of_ble_eq_true rfl⟩) hP hD hS hA [1, 2] [0] rfl rfl (by decide) (by decide) (fun u H locs w_75 hP hD hS => ?_)
    obtain ⟨u_76, u_77⟩ := u
    have hP : va_P D vwCl [(h0, .inr (10, [.ref h0_tape, .ref h0_law, .ref h0_standing, .ref h0_saying, .ref h0_courtReader, .ref h0_bookReader, .ref h0_sentenceReader, .ref h0_bench, .ref h0_whatIf, .ref h0_history, .ref h0_images, .ref h0_latest, .ref h0_latestBook, .ref h0_latestRoll, .int h0_rollLength])), (h0_tape, .inr (6, [.ref h0_tape_bytes, .int u_76, .int h0_tape_faultKind, .int h0_tape_faultAt, .long h0_tape_letters, .int h0_tape_mostBytes, .int h0_tape_behind, .int h0_tape_at, .int h0_tape_kind, .int h0_tape_number])), (aI ca h0_tape_bytes 940 u_77)] H := hP
    have hD : va_D A [(h0, .inr (10, [.ref h0_tape, .ref h0_law, .ref h0_standing, .ref h0_saying, .ref h0_courtReader, .ref h0_bookReader, .ref h0_sentenceReader, .ref h0_bench, .ref h0_whatIf, .ref h0_history, .ref h0_images, .ref h0_latest, .ref h0_latestBook, .ref h0_latestRoll, .int h0_rollLength])), (h0_tape, .inr (6, [.ref h0_tape_bytes, .int u_76, .int h0_tape_faultKind, .int h0_tape_faultAt, .long h0_tape_letters, .int h0_tape_mostBytes, .int h0_tape_behind, .int h0_tape_at, .int h0_tape_kind, .int h0_tape_number])), (aI ca h0_tape_bytes 940 u_77)] := hD
    try dsimp only at w_75
    obtain ⟨h_78, h_79, h_80⟩ := w_75
    refine lv_aload_n hx hb dX11_feed_51 rfl (lv_at hl 0 rfl) ?_
    refine va_get (D := D) (ci := 10) (v := .ref h0_tape) (C := RX11) (T := TX11) (N := 15) hx hb hts k2 hown hK.1 hP 0 rfl rfl 0 (by decide) k1 (fun _ h9 => h9) rfl dX11_feed_52 ?_
    refine lv_iload hx hb dX11_feed_55 (lv_at hl 5 rfl) ?_
    refine oC_v (Wc := [(h0_tape, .inr (6, [.ref h0_tape_bytes, .int u_76, .int h0_tape_faultKind, .int h0_tape_faultAt, .long h0_tape_letters, .int h0_tape_mostBytes, .int h0_tape_behind, .int h0_tape_at, .int h0_tape_kind, .int h0_tape_number])), (aI ca h0_tape_bytes 940 u_77)]) (Wr := [(h0, .inr (10, [.ref h0_tape, .ref h0_law, .ref h0_standing, .ref h0_saying, .ref h0_courtReader, .ref h0_bookReader, .ref h0_sentenceReader, .ref h0_bench, .ref h0_whatIf, .ref h0_history, .ref h0_images, .ref h0_latest, .ref h0_latestBook, .ref h0_latestRoll, .int h0_rollLength]))]) (va_runV (As := [.int a5]) (rest := []) ⟨hx, hb, hml, hown, hts⟩ (s_X6_append l D ca H.size h0_tape a5 h0_tape_bytes u_76 h0_tape_faultKind h0_tape_faultAt h0_tape_letters h0_tape_mostBytes h0_tape_behind h0_tape_at h0_tape_kind h0_tape_number u_77 h_78 i_h0_tape_faultKind i_h0_tape_behind h_79) (cwV 1 hts gX11_feed_X6_append rfl rfl rfl (by decide +kernel) ⟨Nat.le_of_ble_eq_true rfl, Nat.le_of_ble_eq_true rfl⟩) (oPV (C := RX6) hK hP hD [1, 2] rfl (by decide) 0 rfl (ci := 6) rfl rfl) rfl rfl hl.1 rfl (lv_room (Nat.le_of_ble_eq_true rfl)) dX11_feed_57 ⟨Nat.le_of_ble_eq_true rfl, Nat.le_of_ble_eq_true rfl⟩) hP hD hS hA [1, 2] [0] rfl rfl (by decide) (by decide) (fun u H locs w_82 hP hD hS => ?_)
    obtain ⟨u_83, u_84⟩ := u
    have hP : va_P D vwCl [(h0, .inr (10, [.ref h0_tape, .ref h0_law, .ref h0_standing, .ref h0_saying, .ref h0_courtReader, .ref h0_bookReader, .ref h0_sentenceReader, .ref h0_bench, .ref h0_whatIf, .ref h0_history, .ref h0_images, .ref h0_latest, .ref h0_latestBook, .ref h0_latestRoll, .int h0_rollLength])), (h0_tape, .inr (6, [.ref h0_tape_bytes, .int u_83, .int h0_tape_faultKind, .int h0_tape_faultAt, .long h0_tape_letters, .int h0_tape_mostBytes, .int h0_tape_behind, .int h0_tape_at, .int h0_tape_kind, .int h0_tape_number])), (aI ca h0_tape_bytes 940 u_84)] H := hP
    have hD : va_D A [(h0, .inr (10, [.ref h0_tape, .ref h0_law, .ref h0_standing, .ref h0_saying, .ref h0_courtReader, .ref h0_bookReader, .ref h0_sentenceReader, .ref h0_bench, .ref h0_whatIf, .ref h0_history, .ref h0_images, .ref h0_latest, .ref h0_latestBook, .ref h0_latestRoll, .int h0_rollLength])), (h0_tape, .inr (6, [.ref h0_tape_bytes, .int u_83, .int h0_tape_faultKind, .int h0_tape_faultAt, .long h0_tape_letters, .int h0_tape_mostBytes, .int h0_tape_behind, .int h0_tape_at, .int h0_tape_kind, .int h0_tape_number])), (aI ca h0_tape_bytes 940 u_84)] := hD
    try dsimp only at w_82
    obtain ⟨h_85, h_86, h_87⟩ := w_82
    refine lv_aload_n hx hb dX11_feed_60 rfl (lv_at hl 0 rfl) ?_
    refine va_get (D := D) (ci := 10) (v := .ref h0_tape) (C := RX11) (T := TX11) (N := 15) hx hb hts k2 hown hK.1 hP 0 rfl rfl 0 (by decide) k1 (fun _ h9 => h9) rfl dX11_feed_61 ?_
    refine va_get (D := D) (ci := 6) (v := .int u_83) (C := RX6) (T := TX6) (N := 10) hx hb hts k4 hown hK.1 hP 1 rfl rfl 1 (by decide) k3 (fun _ h9 => h9) rfl dX11_feed_64 ?_
    exact oE_i hx hb hr rfl hlocks hP hD hS (u_83, u_84) [0, 1, 2] rfl (by decide) ⟨(rgw (lo := (-1)) (hi := 940) h_85 (by decide) (by decide)), h_85, h_86, (show rl 0 h0_tape_length u_83 from rlm (by have q0 := rle h_59; have q1 := rle h_66; have q2 := rle h_73; have q3 := rle h_80; have q4 := rle h_87; omega))⟩ (Nat.le_of_ble_eq_true rfl) (Nat.le_of_ble_eq_true rfl) dX11_feed_67
  · skip
    have o_88 : rl 1 940 x_46 := rl_nle c_49
    have h_89 : rg 941 960 x_46 := rl_y o_88 (⟨by decide, by decide⟩ : rg 940 940 (940 : Int32)) h_47 (by decide) (by decide)
    have h_90 : rg 921 940 h0_tape_length := ⟨by have q := lqe l_48; have q1 := (h_89).1; have q2 := (i_h0_tape_length).1; omega, by have q := lqe l_48; have q1 := (h_89).2; have q2 := (i_h0_tape_length).2; omega⟩
    refine lv_iconst (v := (-1)) hx hb dX11_feed_16 (by decide) ?_
    exact oE_i hx hb hr rfl hlocks hP hD hS (h0_tape_length, F_h0_tape_bytes) [0, 1, 2] rfl (by decide) ⟨(⟨by decide, by decide⟩ : rg (-1) 940 ((-1) : Int32)), (rgw (lo := 0) (hi := 940) h_90 (by decide) (by decide)), s_h0_tape_bytes_0, (show rl 0 h0_tape_length h0_tape_length from rlm (by omega))⟩ (Nat.le_of_ble_eq_true rfl) (Nat.le_of_ble_eq_true rfl) dX11_feed_17
theorem dX11_end_0 : decode cX11_end 0 = .ok (.iload_n 1, 1) := by decide +kernel
theorem dX11_end_1 : decode cX11_end 1 = .ok (.ifCond .lt 14, 3) := by decide +kernel
theorem dX11_end_4 : decode cX11_end 4 = .ok (.iload_n 1, 1) := by decide +kernel
theorem dX11_end_5 : decode cX11_end 5 = .ok (.aload_n 0, 1) := by decide +kernel
theorem dX11_end_6 : decode cX11_end 6 = .ok (.getfield 10, 3) := by decide +kernel
theorem dX11_end_9 : decode cX11_end 9 = .ok (.getfield 102, 3) := by decide +kernel
theorem dX11_end_12 : decode cX11_end 12 = .ok (.if_icmp .le 5, 3) := by decide +kernel
theorem dX11_end_15 : decode cX11_end 15 = .ok (.iconst 0, 1) := by decide +kernel
theorem dX11_end_16 : decode cX11_end 16 = .ok (.ireturn, 1) := by decide +kernel
theorem dX11_end_17 : decode cX11_end 17 = .ok (.aload_n 0, 1) := by decide +kernel
theorem dX11_end_18 : decode cX11_end 18 = .ok (.getfield 10, 3) := by decide +kernel
theorem dX11_end_21 : decode cX11_end 21 = .ok (.iload_n 1, 1) := by decide +kernel
theorem dX11_end_22 : decode cX11_end 22 = .ok (.putfield 102, 3) := by decide +kernel
theorem dX11_end_25 : decode cX11_end 25 = .ok (.iconst 1, 1) := by decide +kernel
theorem dX11_end_26 : decode cX11_end 26 = .ok (.ireturn, 1) := by decide +kernel
set_option maxHeartbeats 4000000 in
set_option maxRecDepth 100000 in
theorem s_X11_end (l : Launch) (D : va_G) (ca : Nat → ClassId) (sz : Nat) (h0 : Nat) (a1 : Int32) (h0_tape : Nat) (h0_law : Nat) (h0_standing : Nat) (h0_saying : Nat) (h0_courtReader : Nat) (h0_bookReader : Nat) (h0_sentenceReader : Nat) (h0_bench : Nat) (h0_whatIf : Nat) (h0_history : Nat) (h0_images : Nat) (h0_latest : Nat) (h0_latestBook : Nat) (h0_latestRoll : Nat) (h0_rollLength : Int32) (h0_tape_bytes : Nat) (h0_tape_length : Int32) (h0_tape_faultKind : Int32) (h0_tape_faultAt : Int32) (h0_tape_letters : Int64) (h0_tape_mostBytes : Int32) (h0_tape_behind : Int32) (h0_tape_at : Int32) (h0_tape_kind : Int32) (h0_tape_number : Int32) (i_h0_rollLength : rg 0 40 h0_rollLength) (i_h0_tape_length : rg 0 940 h0_tape_length) (i_h0_tape_faultKind : rg 0 4 h0_tape_faultKind) (i_h0_tape_behind : rg 0 940 h0_tape_behind) : oMet l yX11_end wsX11_end ({ frames := 0, cells := 0, slots := 0, locals := 0 } : Room) [.ref h0, .int a1] D ca sz [(h0, .inr (10, [.ref h0_tape, .ref h0_law, .ref h0_standing, .ref h0_saying, .ref h0_courtReader, .ref h0_bookReader, .ref h0_sentenceReader, .ref h0_bench, .ref h0_whatIf, .ref h0_history, .ref h0_images, .ref h0_latest, .ref h0_latestBook, .ref h0_latestRoll, .int h0_rollLength])), (h0_tape, .inr (6, [.ref h0_tape_bytes, .int h0_tape_length, .int h0_tape_faultKind, .int h0_tape_faultAt, .long h0_tape_letters, .int h0_tape_mostBytes, .int h0_tape_behind, .int h0_tape_at, .int h0_tape_kind, .int h0_tape_number]))] (oQi D (fun (r : Int32) (u : Int32) => ((r = 0) ∧ (rg 0 940 u) ∧ (rl 0 h0_tape_length u) ∧ (rl 0 u h0_tape_length)) ∨ ((r = 1) ∧ (rg 0 940 u) ∧ (rg 0 940 a1) ∧ (rl 0 u h0_tape_length) ∧ (rl 0 a1 h0_tape_length))) (fun (u : Int32) => [(h0, .inr (10, [.ref h0_tape, .ref h0_law, .ref h0_standing, .ref h0_saying, .ref h0_courtReader, .ref h0_bookReader, .ref h0_sentenceReader, .ref h0_bench, .ref h0_whatIf, .ref h0_history, .ref h0_images, .ref h0_latest, .ref h0_latestBook, .ref h0_latestRoll, .int h0_rollLength])), (h0_tape, .inr (6, [.ref h0_tape_bytes, .int u, .int h0_tape_faultKind, .int h0_tape_faultAt, .long h0_tape_letters, .int h0_tape_mostBytes, .int h0_tape_behind, .int h0_tape_at, .int h0_tape_kind, .int h0_tape_number]))])) 0 0 := by
  refine oM (cc := cX11_end) (maxL := 2) (ret := (some .boolean)) (by decide) rfl (Nat.le_of_ble_eq_true rfl) [(0, .ref h0), (1, .int a1)] rfl ?_
  intro p e s m below meth c A H locs ls hx hb hr hml hts hown hlocks hin hK hP hD hA hS hl
  have hown : s.vm.findClass RX11 = some m.cls := hown
  have k1 := hts (.fieldLink RX11 10 "LidCourt" "tape" "LLidCourt$Reader;") (by decide +kernel)
  have k2 : ∀ w ∈ wsX110, w ∈ wsX11_end := fun _ h => List.mem_cons_of_mem _ (List.mem_append_left _ (List.mem_append_right _ h))
  have k3 := hts (.fieldLink RX11 102 "LidCourt$Reader" "length" "I") (by decide +kernel)
  have k4 : ∀ w ∈ wsX60, w ∈ wsX11_end := fun _ h => List.mem_cons_of_mem _ (List.mem_append_right _ h)
  refine lv_iload_n hx hb dX11_end_0 rfl (lv_at hl 1 rfl) ?_
  refine lv_if_lt (tgt := 15) hx hb dX11_end_1 (by decide) (fun c_11 => ?_) (fun c_11 => ?_)
  · skip
    have o_12 : rl 1 a1 0 := rl_lt c_11
    have h_13 : rg (-2147483648) (-1) a1 := rl_x o_12 (rga a1) (⟨by decide, by decide⟩ : rg 0 0 (0 : Int32)) (by decide) (by decide)
    refine lv_iconst (v := 0) hx hb dX11_end_15 (by decide) ?_
    exact oE_i hx hb hr (by decide) hlocks hP hD hS h0_tape_length [0, 1] rfl (by decide) (Or.inl ⟨rfl, i_h0_tape_length, (show rl 0 h0_tape_length h0_tape_length from rlm (by omega)), (show rl 0 h0_tape_length h0_tape_length from rlm (by omega))⟩) (Nat.le_of_ble_eq_true rfl) (Nat.le_of_ble_eq_true rfl) dX11_end_16
  · skip
    have o_14 : rl 0 0 a1 := rl_nlt c_11
    have h_15 : rg 0 2147483647 a1 := rl_y o_14 (⟨by decide, by decide⟩ : rg 0 0 (0 : Int32)) (rga a1) (by decide) (by decide)
    refine lv_iload_n hx hb dX11_end_4 rfl (lv_at hl 1 rfl) ?_
    refine lv_aload_n hx hb dX11_end_5 rfl (lv_at hl 0 rfl) ?_
    refine va_get (D := D) (ci := 10) (v := .ref h0_tape) (C := RX11) (T := TX11) (N := 15) hx hb hts k2 hown hK.1 hP 0 rfl rfl 0 (by decide) k1 (fun _ h9 => h9) rfl dX11_end_6 ?_
    refine va_get (D := D) (ci := 6) (v := .int h0_tape_length) (C := RX6) (T := TX6) (N := 10) hx hb hts k4 hown hK.1 hP 1 rfl rfl 1 (by decide) k3 (fun _ h9 => h9) rfl dX11_end_9 ?_
    refine lv_icmp_le (tgt := 17) hx hb dX11_end_12 (by decide) (fun c_16 => ?_) (fun c_16 => ?_)
    · skip
      have o_17 : rl 0 a1 h0_tape_length := rl_le c_16
      have h_18 : rg 0 940 a1 := rl_x o_17 h_15 i_h0_tape_length (by decide) (by decide)
      refine lv_aload_n hx hb dX11_end_17 rfl (lv_at hl 0 rfl) ?_
      refine va_get (D := D) (ci := 10) (v := .ref h0_tape) (C := RX11) (T := TX11) (N := 15) hx hb hts k2 hown hK.1 hP 0 rfl rfl 0 (by decide) k1 (fun _ h9 => h9) rfl dX11_end_18 ?_
      refine lv_iload_n hx hb dX11_end_21 rfl (lv_at hl 1 rfl) ?_
      refine va_put (D := D) (ci := 6) (v := .int a1) (ty := .int) (C := RX6) (T := TX6) (N := 10) hx hb hts k4 tyX6 tyX6_ok nmX6 hown hK.1 hP hD hS 1 rfl rfl 1 (by decide) k3 (fun _ h9 => h9) rfl (by decide +kernel) rfl rfl (Nat.le_of_ble_eq_true rfl) dX11_end_22 (fun H locs hP hD hS => ?_)
      have hP : va_P D vwCl [(h0, .inr (10, [.ref h0_tape, .ref h0_law, .ref h0_standing, .ref h0_saying, .ref h0_courtReader, .ref h0_bookReader, .ref h0_sentenceReader, .ref h0_bench, .ref h0_whatIf, .ref h0_history, .ref h0_images, .ref h0_latest, .ref h0_latestBook, .ref h0_latestRoll, .int h0_rollLength])), (h0_tape, .inr (6, [.ref h0_tape_bytes, .int a1, .int h0_tape_faultKind, .int h0_tape_faultAt, .long h0_tape_letters, .int h0_tape_mostBytes, .int h0_tape_behind, .int h0_tape_at, .int h0_tape_kind, .int h0_tape_number]))] H := hP
      have hD : va_D A [(h0, .inr (10, [.ref h0_tape, .ref h0_law, .ref h0_standing, .ref h0_saying, .ref h0_courtReader, .ref h0_bookReader, .ref h0_sentenceReader, .ref h0_bench, .ref h0_whatIf, .ref h0_history, .ref h0_images, .ref h0_latest, .ref h0_latestBook, .ref h0_latestRoll, .int h0_rollLength])), (h0_tape, .inr (6, [.ref h0_tape_bytes, .int a1, .int h0_tape_faultKind, .int h0_tape_faultAt, .long h0_tape_letters, .int h0_tape_mostBytes, .int h0_tape_behind, .int h0_tape_at, .int h0_tape_kind, .int h0_tape_number]))] := hD
      refine lv_iconst (v := 1) hx hb dX11_end_25 (by decide) ?_
      exact oE_i hx hb hr (by decide) hlocks hP hD hS a1 [0, 1] rfl (by decide) (Or.inr (⟨rfl, h_18, h_18, (show rl 0 a1 h0_tape_length from rlm (by have q0 := rle o_17; omega)), (show rl 0 a1 h0_tape_length from rlm (by have q0 := rle o_17; omega))⟩)) (Nat.le_of_ble_eq_true rfl) (Nat.le_of_ble_eq_true rfl) dX11_end_26
    · skip
      have o_19 : rl 1 h0_tape_length a1 := rl_nle c_16
      have h_20 : rg 1 2147483647 a1 := rl_y o_19 i_h0_tape_length h_15 (by decide) (by decide)
      refine lv_iconst (v := 0) hx hb dX11_end_15 (by decide) ?_
      exact oE_i hx hb hr (by decide) hlocks hP hD hS h0_tape_length [0, 1] rfl (by decide) (Or.inl ⟨rfl, i_h0_tape_length, (show rl 0 h0_tape_length h0_tape_length from rlm (by omega)), (show rl 0 h0_tape_length h0_tape_length from rlm (by omega))⟩) (Nat.le_of_ble_eq_true rfl) (Nat.le_of_ble_eq_true rfl) dX11_end_16
theorem dX5_empty_0 : decode cX5_empty 0 = .ok (.aload_n 0, 1) := by decide +kernel
theorem dX5_empty_1 : decode cX5_empty 1 = .ok (.iconst 0, 1) := by decide +kernel
theorem dX5_empty_2 : decode cX5_empty 2 = .ok (.putfield 43, 3) := by decide +kernel
theorem dX5_empty_5 : decode cX5_empty 5 = .ok (.aload_n 0, 1) := by decide +kernel
theorem dX5_empty_6 : decode cX5_empty 6 = .ok (.iconst 0, 1) := by decide +kernel
theorem dX5_empty_7 : decode cX5_empty 7 = .ok (.putfield 47, 3) := by decide +kernel
theorem dX5_empty_10 : decode cX5_empty 10 = .ok (.aload_n 0, 1) := by decide +kernel
theorem dX5_empty_11 : decode cX5_empty 11 = .ok (.iconst 0, 1) := by decide +kernel
theorem dX5_empty_12 : decode cX5_empty 12 = .ok (.putfield 50, 3) := by decide +kernel
theorem dX5_empty_15 : decode cX5_empty 15 = .ok (.aload_n 0, 1) := by decide +kernel
theorem dX5_empty_16 : decode cX5_empty 16 = .ok (.iconst 3, 1) := by decide +kernel
theorem dX5_empty_17 : decode cX5_empty 17 = .ok (.putfield 53, 3) := by decide +kernel
theorem dX5_empty_20 : decode cX5_empty 20 = .ok (.aload_n 0, 1) := by decide +kernel
theorem dX5_empty_21 : decode cX5_empty 21 = .ok (.iconst 1, 1) := by decide +kernel
theorem dX5_empty_22 : decode cX5_empty 22 = .ok (.putfield 56, 3) := by decide +kernel
theorem dX5_empty_25 : decode cX5_empty 25 = .ok (.aload_n 0, 1) := by decide +kernel
theorem dX5_empty_26 : decode cX5_empty 26 = .ok (.iconst 0, 1) := by decide +kernel
theorem dX5_empty_27 : decode cX5_empty 27 = .ok (.putfield 59, 3) := by decide +kernel
theorem dX5_empty_30 : decode cX5_empty 30 = .ok (.iconst 0, 1) := by decide +kernel
theorem dX5_empty_31 : decode cX5_empty 31 = .ok (.istore_n 1, 1) := by decide +kernel
theorem dX5_empty_32 : decode cX5_empty 32 = .ok (.iload_n 1, 1) := by decide +kernel
theorem dX5_empty_33 : decode cX5_empty 33 = .ok (.aload_n 0, 1) := by decide +kernel
theorem dX5_empty_34 : decode cX5_empty 34 = .ok (.getfield 40, 3) := by decide +kernel
theorem dX5_empty_37 : decode cX5_empty 37 = .ok (.arraylength, 1) := by decide +kernel
theorem dX5_empty_38 : decode cX5_empty 38 = .ok (.if_icmp .ge 16, 3) := by decide +kernel
theorem dX5_empty_41 : decode cX5_empty 41 = .ok (.aload_n 0, 1) := by decide +kernel
theorem dX5_empty_42 : decode cX5_empty 42 = .ok (.getfield 40, 3) := by decide +kernel
theorem dX5_empty_45 : decode cX5_empty 45 = .ok (.iload_n 1, 1) := by decide +kernel
theorem dX5_empty_46 : decode cX5_empty 46 = .ok (.iconst (-1), 1) := by decide +kernel
theorem dX5_empty_47 : decode cX5_empty 47 = .ok (.iastore, 1) := by decide +kernel
theorem dX5_empty_48 : decode cX5_empty 48 = .ok (.iinc 1 1, 3) := by decide +kernel
theorem dX5_empty_51 : decode cX5_empty 51 = .ok (.goto (-19), 3) := by decide +kernel
theorem dX5_empty_54 : decode cX5_empty 54 = .ok (.return_, 1) := by decide +kernel
set_option maxHeartbeats 4000000 in
set_option maxRecDepth 100000 in
theorem s_X5_empty (l : Launch) (D : va_G) (ca : Nat → ClassId) (sz : Nat) (h0 : Nat) (h0_jurors : Int32) (h0_floors : Int32) (h0_cases : Int32) (h0_one : Int32) (h0_dent : Int32) (h0_seated : Int32) (h0_jurorName : Nat) (h0_floorName : Nat) (h0_caseName : Nat) (h0_pitch : Nat) (h0_length : Nat) (h0_hands : Nat) (h0_tune : Nat) (h0_dull : Nat) (h0_caseFloor : Nat) (h0_tuned : Nat) (F_h0_tuned : Nat → Int32) (i_h0_jurors : rg 0 10 h0_jurors) (i_h0_floors : rg 0 4 h0_floors) (i_h0_cases : rg 0 5 h0_cases) (i_h0_seated : rg 0 1023 h0_seated) : oMet l yX5_empty wsX5_empty ({ frames := 0, cells := 0, slots := 0, locals := 0 } : Room) [.ref h0] D ca sz [(h0, .inr (5, [.int h0_jurors, .int h0_floors, .int h0_cases, .int h0_one, .int h0_dent, .int h0_seated, .ref h0_jurorName, .ref h0_floorName, .ref h0_caseName, .ref h0_pitch, .ref h0_length, .ref h0_hands, .ref h0_tune, .ref h0_dull, .ref h0_caseFloor, .ref h0_tuned])), (aI ca h0_tuned 40 F_h0_tuned)] (oQv D (fun (u : (Nat → Int32)) => True) (fun (u : (Nat → Int32)) => [(h0, .inr (5, [.int 0, .int 0, .int 0, .int 3, .int 1, .int 0, .ref h0_jurorName, .ref h0_floorName, .ref h0_caseName, .ref h0_pitch, .ref h0_length, .ref h0_hands, .ref h0_tune, .ref h0_dull, .ref h0_caseFloor, .ref h0_tuned])), (aI ca h0_tuned 40 u)])) 0 0 := by
  refine oM (cc := cX5_empty) (maxL := 2) (ret := none) (by decide) rfl (Nat.le_of_ble_eq_true rfl) [(0, .ref h0)] rfl ?_
  intro p e s m below meth c A H locs ls hx hb hr hml hts hown hlocks hin hK hP hD hA hS hl
  have hown : s.vm.findClass RX5 = some m.cls := hown
  have k1 := hts (.fieldLink RX5 40 "LidCourt$Law" "tuned" "[I") (by decide +kernel)
  have k2 : ∀ w ∈ wsX50, w ∈ wsX5_empty := fun _ h => List.mem_cons_of_mem _ (List.mem_append_right _ h)
  have k3 := hts (.fieldLink RX5 43 "LidCourt$Law" "jurors" "I") (by decide +kernel)
  have k4 := hts (.fieldLink RX5 47 "LidCourt$Law" "floors" "I") (by decide +kernel)
  have k5 := hts (.fieldLink RX5 50 "LidCourt$Law" "cases" "I") (by decide +kernel)
  have k6 := hts (.fieldLink RX5 53 "LidCourt$Law" "one" "I") (by decide +kernel)
  have k7 := hts (.fieldLink RX5 56 "LidCourt$Law" "dent" "I") (by decide +kernel)
  have k8 := hts (.fieldLink RX5 59 "LidCourt$Law" "seated" "I") (by decide +kernel)
  have J32_57 : ∀ (n : Nat) (y32_0 : Int32) (f32_1 : Nat → Int32), True → rg 0 40 y32_0 → 40 < y32_0.toInt + (n : Int) → ∀ (H : Heap) (locs : List Loc) (ls : Array Slot), va_P D vwCl [(h0, .inr (5, [.int 0, .int 0, .int 0, .int 3, .int 1, .int 0, .ref h0_jurorName, .ref h0_floorName, .ref h0_caseName, .ref h0_pitch, .ref h0_length, .ref h0_hands, .ref h0_tune, .ref h0_dull, .ref h0_caseFloor, .ref h0_tuned])), (aI ca h0_tuned 40 f32_1)] H → va_D A [(h0, .inr (5, [.int 0, .int 0, .int 0, .int 3, .int 1, .int 0, .ref h0_jurorName, .ref h0_floorName, .ref h0_caseName, .ref h0_pitch, .ref h0_length, .ref h0_hands, .ref h0_tune, .ref h0_dull, .ref h0_caseFloor, .ref h0_tuned])), (aI ca h0_tuned 40 f32_1)] → va_S A s.heap H locs → lv_has ls 2 [(0, .ref h0), (1, .int y32_0)] → W p l e ({ frames := 0, cells := 0, slots := 0, locals := 0 } : Room) s m ([.ref h0] : List Value).toArray below meth c H locs 0 0 (MQ below ((oQv D (fun (u : (Nat → Int32)) => True) (fun (u : (Nat → Int32)) => [(h0, .inr (5, [.int 0, .int 0, .int 0, .int 3, .int 1, .int 0, .ref h0_jurorName, .ref h0_floorName, .ref h0_caseName, .ref h0_pitch, .ref h0_length, .ref h0_hands, .ref h0_tune, .ref h0_dull, .ref h0_caseFloor, .ref h0_tuned])), (aI ca h0_tuned 40 u)])) A) ([.ref h0] : List Value).toArray s 0 0 A) (F0 m 32 ls []) := by
    intro n
    induction n with
    | zero => intro y32_0 f32_1 _ hy32_0 hn; exact absurd hn (by have q9 := hy32_0.2; omega)
    | succ n ih =>
      intro y32_0 f32_1 _ hy32_0 hn H locs ls hP hD hS hl
      refine lv_iload_n hx hb dX5_empty_32 rfl (lv_at hl 1 rfl) ?_
      refine lv_aload_n hx hb dX5_empty_33 rfl (lv_at hl 0 rfl) ?_
      refine va_get (D := D) (ci := 5) (v := .ref h0_tuned) (C := RX5) (T := TX5) (N := 16) hx hb hts k2 hown hK.1 hP 0 rfl rfl 15 (by decide) k1 (fun _ h9 => h9) rfl dX5_empty_34 ?_
      refine va_alen hx hb hK.1 hP 1 0 rfl rfl (v := 40) rfl dX5_empty_37 ?_
      refine lv_icmp_ge (tgt := 54) hx hb dX5_empty_38 (by decide) (fun c_67 => ?_) (fun c_67 => ?_)
      · skip
        have o_68 : rl 0 40 y32_0 := rl_le c_67
        have h_69 : rg 40 40 y32_0 := rl_y o_68 (⟨by decide, by decide⟩ : rg 40 40 (40 : Int32)) hy32_0 (by decide) (by decide)
        exact oE_v hx hb hr hlocks hP hD hS f32_1 [0, 1] rfl (by decide) trivial (Nat.le_of_ble_eq_true rfl) (Nat.le_of_ble_eq_true rfl) dX5_empty_54
      · skip
        have o_70 : rl 1 y32_0 40 := rl_nle c_67
        have h_71 : rg 0 39 y32_0 := rl_x o_70 hy32_0 (⟨by decide, by decide⟩ : rg 40 40 (40 : Int32)) (by decide) (by decide)
        refine lv_aload_n hx hb dX5_empty_41 rfl (lv_at hl 0 rfl) ?_
        refine va_get (D := D) (ci := 5) (v := .ref h0_tuned) (C := RX5) (T := TX5) (N := 16) hx hb hts k2 hown hK.1 hP 0 rfl rfl 15 (by decide) k1 (fun _ h9 => h9) rfl dX5_empty_42 ?_
        refine lv_iload_n hx hb dX5_empty_45 rfl (lv_at hl 1 rfl) ?_
        refine lv_iconst (v := (-1)) hx hb dX5_empty_46 (by decide) ?_
        refine va_iast hx hb hK.1 hP hD hS 1 0 rfl rfl (rg_in h_71 (by decide) (by decide)) dX5_empty_47 (fun H locs hP hD hS => ?_)
        obtain ⟨g_72, eg_72⟩ : ∃ y : Nat → Int32, y = upd f32_1 (y32_0 : Int32).toNatClampNeg ((-1) : Int32) := ⟨_, rfl⟩
        rw [← eg_72] at hP hD
        have hP : va_P D vwCl [(h0, .inr (5, [.int 0, .int 0, .int 0, .int 3, .int 1, .int 0, .ref h0_jurorName, .ref h0_floorName, .ref h0_caseName, .ref h0_pitch, .ref h0_length, .ref h0_hands, .ref h0_tune, .ref h0_dull, .ref h0_caseFloor, .ref h0_tuned])), (aI ca h0_tuned 40 g_72)] H := hP
        have hD : va_D A [(h0, .inr (5, [.int 0, .int 0, .int 0, .int 3, .int 1, .int 0, .ref h0_jurorName, .ref h0_floorName, .ref h0_caseName, .ref h0_pitch, .ref h0_length, .ref h0_hands, .ref h0_tune, .ref h0_dull, .ref h0_caseFloor, .ref h0_tuned])), (aI ca h0_tuned 40 g_72)] := hD
        obtain ⟨x_73, ex_73⟩ : ∃ y : Int32, y = y32_0 + 1 := ⟨_, rfl⟩
        have h_74 : rg 1 40 x_73 := by rw [ex_73]; exact rg_add h_71 (⟨by decide, by decide⟩ : rg 1 1 (1 : Int32)) (by decide) (by decide) (by decide) (by decide)
        have l_75 : lq x_73.toInt (y32_0.toInt + 1) := lqm (by rw [ex_73]; have q := tadd h_71 (⟨by decide, by decide⟩ : rg 1 1 (1 : Int32)) (by decide) (by decide); have r1 := lqe (lqm (by decide) : lq (1 : Int32).toInt 1); omega)
        refine lv_iinc (v := x_73) (lv' := [(1, .int x_73), (0, .ref h0)]) hx hb dX5_empty_48 hl (k := 1) rfl (by rw [ex_73]; rfl) (by decide) rfl (fun ls hl => ?_)
        refine lv_goto (tgt := 32) hx hb dX5_empty_51 (by decide) ?_
        exact ih x_73 g_72 trivial (rgw (lo := 0) (hi := 40) h_74 (by decide) (by decide)) (by have q0 := lqe l_75; omega) H locs ls (oPsub hP [0, 1] rfl) (hD.sub [0, 1] (by decide) rfl) hS (lv_sub hl [1, 0] rfl)
  refine lv_aload_n hx hb dX5_empty_0 rfl (lv_at hl 0 rfl) ?_
  refine lv_iconst (v := 0) hx hb dX5_empty_1 (by decide) ?_
  refine va_put (D := D) (ci := 5) (v := .int 0) (ty := .int) (C := RX5) (T := TX5) (N := 16) hx hb hts k2 tyX5 tyX5_ok nmX5 hown hK.1 hP hD hS 0 rfl rfl 0 (by decide) k3 (fun _ h9 => h9) rfl (by decide +kernel) rfl rfl (Nat.le_of_ble_eq_true rfl) dX5_empty_2 (fun H locs hP hD hS => ?_)
  have hP : va_P D vwCl [(h0, .inr (5, [.int 0, .int h0_floors, .int h0_cases, .int h0_one, .int h0_dent, .int h0_seated, .ref h0_jurorName, .ref h0_floorName, .ref h0_caseName, .ref h0_pitch, .ref h0_length, .ref h0_hands, .ref h0_tune, .ref h0_dull, .ref h0_caseFloor, .ref h0_tuned])), (aI ca h0_tuned 40 F_h0_tuned)] H := hP
  have hD : va_D A [(h0, .inr (5, [.int 0, .int h0_floors, .int h0_cases, .int h0_one, .int h0_dent, .int h0_seated, .ref h0_jurorName, .ref h0_floorName, .ref h0_caseName, .ref h0_pitch, .ref h0_length, .ref h0_hands, .ref h0_tune, .ref h0_dull, .ref h0_caseFloor, .ref h0_tuned])), (aI ca h0_tuned 40 F_h0_tuned)] := hD
  refine lv_aload_n hx hb dX5_empty_5 rfl (lv_at hl 0 rfl) ?_
  refine lv_iconst (v := 0) hx hb dX5_empty_6 (by decide) ?_
  refine va_put (D := D) (ci := 5) (v := .int 0) (ty := .int) (C := RX5) (T := TX5) (N := 16) hx hb hts k2 tyX5 tyX5_ok nmX5 hown hK.1 hP hD hS 0 rfl rfl 1 (by decide) k4 (fun _ h9 => h9) rfl (by decide +kernel) rfl rfl (Nat.le_of_ble_eq_true rfl) dX5_empty_7 (fun H locs hP hD hS => ?_)
  have hP : va_P D vwCl [(h0, .inr (5, [.int 0, .int 0, .int h0_cases, .int h0_one, .int h0_dent, .int h0_seated, .ref h0_jurorName, .ref h0_floorName, .ref h0_caseName, .ref h0_pitch, .ref h0_length, .ref h0_hands, .ref h0_tune, .ref h0_dull, .ref h0_caseFloor, .ref h0_tuned])), (aI ca h0_tuned 40 F_h0_tuned)] H := hP
  have hD : va_D A [(h0, .inr (5, [.int 0, .int 0, .int h0_cases, .int h0_one, .int h0_dent, .int h0_seated, .ref h0_jurorName, .ref h0_floorName, .ref h0_caseName, .ref h0_pitch, .ref h0_length, .ref h0_hands, .ref h0_tune, .ref h0_dull, .ref h0_caseFloor, .ref h0_tuned])), (aI ca h0_tuned 40 F_h0_tuned)] := hD
  refine lv_aload_n hx hb dX5_empty_10 rfl (lv_at hl 0 rfl) ?_
  refine lv_iconst (v := 0) hx hb dX5_empty_11 (by decide) ?_
  refine va_put (D := D) (ci := 5) (v := .int 0) (ty := .int) (C := RX5) (T := TX5) (N := 16) hx hb hts k2 tyX5 tyX5_ok nmX5 hown hK.1 hP hD hS 0 rfl rfl 2 (by decide) k5 (fun _ h9 => h9) rfl (by decide +kernel) rfl rfl (Nat.le_of_ble_eq_true rfl) dX5_empty_12 (fun H locs hP hD hS => ?_)
  have hP : va_P D vwCl [(h0, .inr (5, [.int 0, .int 0, .int 0, .int h0_one, .int h0_dent, .int h0_seated, .ref h0_jurorName, .ref h0_floorName, .ref h0_caseName, .ref h0_pitch, .ref h0_length, .ref h0_hands, .ref h0_tune, .ref h0_dull, .ref h0_caseFloor, .ref h0_tuned])), (aI ca h0_tuned 40 F_h0_tuned)] H := hP
  have hD : va_D A [(h0, .inr (5, [.int 0, .int 0, .int 0, .int h0_one, .int h0_dent, .int h0_seated, .ref h0_jurorName, .ref h0_floorName, .ref h0_caseName, .ref h0_pitch, .ref h0_length, .ref h0_hands, .ref h0_tune, .ref h0_dull, .ref h0_caseFloor, .ref h0_tuned])), (aI ca h0_tuned 40 F_h0_tuned)] := hD
  refine lv_aload_n hx hb dX5_empty_15 rfl (lv_at hl 0 rfl) ?_
  refine lv_iconst (v := 3) hx hb dX5_empty_16 (by decide) ?_
  refine va_put (D := D) (ci := 5) (v := .int 3) (ty := .int) (C := RX5) (T := TX5) (N := 16) hx hb hts k2 tyX5 tyX5_ok nmX5 hown hK.1 hP hD hS 0 rfl rfl 3 (by decide) k6 (fun _ h9 => h9) rfl (by decide +kernel) rfl rfl (Nat.le_of_ble_eq_true rfl) dX5_empty_17 (fun H locs hP hD hS => ?_)
  have hP : va_P D vwCl [(h0, .inr (5, [.int 0, .int 0, .int 0, .int 3, .int h0_dent, .int h0_seated, .ref h0_jurorName, .ref h0_floorName, .ref h0_caseName, .ref h0_pitch, .ref h0_length, .ref h0_hands, .ref h0_tune, .ref h0_dull, .ref h0_caseFloor, .ref h0_tuned])), (aI ca h0_tuned 40 F_h0_tuned)] H := hP
  have hD : va_D A [(h0, .inr (5, [.int 0, .int 0, .int 0, .int 3, .int h0_dent, .int h0_seated, .ref h0_jurorName, .ref h0_floorName, .ref h0_caseName, .ref h0_pitch, .ref h0_length, .ref h0_hands, .ref h0_tune, .ref h0_dull, .ref h0_caseFloor, .ref h0_tuned])), (aI ca h0_tuned 40 F_h0_tuned)] := hD
  refine lv_aload_n hx hb dX5_empty_20 rfl (lv_at hl 0 rfl) ?_
  refine lv_iconst (v := 1) hx hb dX5_empty_21 (by decide) ?_
  refine va_put (D := D) (ci := 5) (v := .int 1) (ty := .int) (C := RX5) (T := TX5) (N := 16) hx hb hts k2 tyX5 tyX5_ok nmX5 hown hK.1 hP hD hS 0 rfl rfl 4 (by decide) k7 (fun _ h9 => h9) rfl (by decide +kernel) rfl rfl (Nat.le_of_ble_eq_true rfl) dX5_empty_22 (fun H locs hP hD hS => ?_)
  have hP : va_P D vwCl [(h0, .inr (5, [.int 0, .int 0, .int 0, .int 3, .int 1, .int h0_seated, .ref h0_jurorName, .ref h0_floorName, .ref h0_caseName, .ref h0_pitch, .ref h0_length, .ref h0_hands, .ref h0_tune, .ref h0_dull, .ref h0_caseFloor, .ref h0_tuned])), (aI ca h0_tuned 40 F_h0_tuned)] H := hP
  have hD : va_D A [(h0, .inr (5, [.int 0, .int 0, .int 0, .int 3, .int 1, .int h0_seated, .ref h0_jurorName, .ref h0_floorName, .ref h0_caseName, .ref h0_pitch, .ref h0_length, .ref h0_hands, .ref h0_tune, .ref h0_dull, .ref h0_caseFloor, .ref h0_tuned])), (aI ca h0_tuned 40 F_h0_tuned)] := hD
  refine lv_aload_n hx hb dX5_empty_25 rfl (lv_at hl 0 rfl) ?_
  refine lv_iconst (v := 0) hx hb dX5_empty_26 (by decide) ?_
  refine va_put (D := D) (ci := 5) (v := .int 0) (ty := .int) (C := RX5) (T := TX5) (N := 16) hx hb hts k2 tyX5 tyX5_ok nmX5 hown hK.1 hP hD hS 0 rfl rfl 5 (by decide) k8 (fun _ h9 => h9) rfl (by decide +kernel) rfl rfl (Nat.le_of_ble_eq_true rfl) dX5_empty_27 (fun H locs hP hD hS => ?_)
  have hP : va_P D vwCl [(h0, .inr (5, [.int 0, .int 0, .int 0, .int 3, .int 1, .int 0, .ref h0_jurorName, .ref h0_floorName, .ref h0_caseName, .ref h0_pitch, .ref h0_length, .ref h0_hands, .ref h0_tune, .ref h0_dull, .ref h0_caseFloor, .ref h0_tuned])), (aI ca h0_tuned 40 F_h0_tuned)] H := hP
  have hD : va_D A [(h0, .inr (5, [.int 0, .int 0, .int 0, .int 3, .int 1, .int 0, .ref h0_jurorName, .ref h0_floorName, .ref h0_caseName, .ref h0_pitch, .ref h0_length, .ref h0_hands, .ref h0_tune, .ref h0_dull, .ref h0_caseFloor, .ref h0_tuned])), (aI ca h0_tuned 40 F_h0_tuned)] := hD
  refine lv_iconst (v := 0) hx hb dX5_empty_30 (by decide) ?_
  refine lv_istore_n (lv' := [(1, .int 0), (0, .ref h0)]) hx hb dX5_empty_31 rfl hl (by decide) rfl (fun ls hl => ?_)
  exact J32_57 41 0 F_h0_tuned trivial (⟨by decide, by decide⟩ : rg 0 40 (0 : Int32)) (by have q0 := (⟨by decide, by decide⟩ : rg 0 0 (0 : Int32)).1; omega) H locs ls (oPsub hP [0, 1] rfl) (hD.sub [0, 1] (by decide) rfl) hS (lv_sub hl [1, 0] rfl)
theorem dX6_isBroken_0 : decode cX6_isBroken 0 = .ok (.aload_n 0, 1) := by decide +kernel
theorem dX6_isBroken_1 : decode cX6_isBroken 1 = .ok (.getfield 25, 3) := by decide +kernel
theorem dX6_isBroken_4 : decode cX6_isBroken 4 = .ok (.ifCond .eq 7, 3) := by decide +kernel
theorem dX6_isBroken_7 : decode cX6_isBroken 7 = .ok (.iconst 1, 1) := by decide +kernel
theorem dX6_isBroken_8 : decode cX6_isBroken 8 = .ok (.goto 4, 3) := by decide +kernel
theorem dX6_isBroken_11 : decode cX6_isBroken 11 = .ok (.iconst 0, 1) := by decide +kernel
theorem dX6_isBroken_12 : decode cX6_isBroken 12 = .ok (.ireturn, 1) := by decide +kernel
set_option maxHeartbeats 4000000 in
set_option maxRecDepth 100000 in
theorem s_X6_isBroken (l : Launch) (D : va_G) (ca : Nat → ClassId) (sz : Nat) (h0 : Nat) (h0_bytes : Nat) (h0_length : Int32) (h0_faultKind : Int32) (h0_faultAt : Int32) (h0_letters : Int64) (h0_mostBytes : Int32) (h0_behind : Int32) (h0_at : Int32) (h0_kind : Int32) (h0_number : Int32) (i_h0_length : rg 0 940 h0_length) (i_h0_faultKind : rg 0 4 h0_faultKind) (i_h0_behind : rg 0 940 h0_behind) : oMet l yX6_isBroken wsX6_isBroken ({ frames := 0, cells := 0, slots := 0, locals := 0 } : Room) [.ref h0] D ca sz [(h0, .inr (6, [.ref h0_bytes, .int h0_length, .int h0_faultKind, .int h0_faultAt, .long h0_letters, .int h0_mostBytes, .int h0_behind, .int h0_at, .int h0_kind, .int h0_number]))] (oQi D (fun (r : Int32) (u : Unit) => ((r = 0) ∧ (rg 0 0 h0_faultKind)) ∨ ((r = 1) ∧ (rg 1 4 h0_faultKind))) (fun (u : Unit) => [(h0, .inr (6, [.ref h0_bytes, .int h0_length, .int h0_faultKind, .int h0_faultAt, .long h0_letters, .int h0_mostBytes, .int h0_behind, .int h0_at, .int h0_kind, .int h0_number]))])) 0 0 := by
  refine oM (cc := cX6_isBroken) (maxL := 1) (ret := (some .boolean)) (by decide) rfl (Nat.le_of_ble_eq_true rfl) [(0, .ref h0)] rfl ?_
  intro p e s m below meth c A H locs ls hx hb hr hml hts hown hlocks hin hK hP hD hA hS hl
  have hown : s.vm.findClass RX6 = some m.cls := hown
  have k1 := hts (.fieldLink RX6 25 "LidCourt$Reader" "faultKind" "I") (by decide +kernel)
  have k2 : ∀ w ∈ wsX60, w ∈ wsX6_isBroken := fun _ h => List.mem_cons_of_mem _ (List.mem_append_right _ h)
  refine lv_aload_n hx hb dX6_isBroken_0 rfl (lv_at hl 0 rfl) ?_
  refine va_get (D := D) (ci := 6) (v := .int h0_faultKind) (C := RX6) (T := TX6) (N := 10) hx hb hts k2 hown hK.1 hP 0 rfl rfl 2 (by decide) k1 (fun _ h9 => h9) rfl dX6_isBroken_1 ?_
  refine lv_if_eq (tgt := 11) hx hb dX6_isBroken_4 (by decide) (fun c_6 => ?_) (fun c_6 => ?_)
  · skip
    have o_7 : rl 0 h0_faultKind 0 := rl_eq c_6
    have h_8 : rg 0 0 h0_faultKind := rl_x o_7 i_h0_faultKind (⟨by decide, by decide⟩ : rg 0 0 (0 : Int32)) (by decide) (by decide)
    have o_9 : rl 0 0 h0_faultKind := rl_eq c_6.symm
    refine lv_iconst (v := 0) hx hb dX6_isBroken_11 (by decide) ?_
    exact oE_i hx hb hr (by decide) hlocks hP hD hS () [0] rfl (by decide) (Or.inl ⟨rfl, h_8⟩) (Nat.le_of_ble_eq_true rfl) (Nat.le_of_ble_eq_true rfl) dX6_isBroken_12
  · skip
    have h_10 : rg 1 4 h0_faultKind := cl_nlo c_6 i_h0_faultKind (show (0 : Int32).toInt = 0 by decide) (by decide) (by decide)
    refine lv_iconst (v := 1) hx hb dX6_isBroken_7 (by decide) ?_
    refine lv_goto (tgt := 12) hx hb dX6_isBroken_8 (by decide) ?_
    exact oE_i hx hb hr (by decide) hlocks hP hD hS () [0] rfl (by decide) (Or.inr (⟨rfl, h_10⟩)) (Nat.le_of_ble_eq_true rfl) (Nat.le_of_ble_eq_true rfl) dX6_isBroken_12
theorem dX6_readRun_0 : decode cX6_readRun 0 = .ok (.iconst 0, 1) := by decide +kernel
theorem dX6_readRun_1 : decode cX6_readRun 1 = .ok (.istore_n 1, 1) := by decide +kernel
theorem dX6_readRun_2 : decode cX6_readRun 2 = .ok (.iconst 0, 1) := by decide +kernel
theorem dX6_readRun_3 : decode cX6_readRun 3 = .ok (.istore_n 2, 1) := by decide +kernel
theorem dX6_readRun_4 : decode cX6_readRun 4 = .ok (.aload_n 0, 1) := by decide +kernel
theorem dX6_readRun_5 : decode cX6_readRun 5 = .ok (.iconst 0, 1) := by decide +kernel
theorem dX6_readRun_6 : decode cX6_readRun 6 = .ok (.putfield 61, 3) := by decide +kernel
theorem dX6_readRun_9 : decode cX6_readRun 9 = .ok (.aload_n 0, 1) := by decide +kernel
theorem dX6_readRun_10 : decode cX6_readRun 10 = .ok (.getfield 22, 3) := by decide +kernel
theorem dX6_readRun_13 : decode cX6_readRun 13 = .ok (.aload_n 0, 1) := by decide +kernel
theorem dX6_readRun_14 : decode cX6_readRun 14 = .ok (.getfield 15, 3) := by decide +kernel
theorem dX6_readRun_17 : decode cX6_readRun 17 = .ok (.if_icmp .ge 95, 3) := by decide +kernel
theorem dX6_readRun_20 : decode cX6_readRun 20 = .ok (.aload_n 0, 1) := by decide +kernel
theorem dX6_readRun_21 : decode cX6_readRun 21 = .ok (.getfield 9, 3) := by decide +kernel
theorem dX6_readRun_24 : decode cX6_readRun 24 = .ok (.aload_n 0, 1) := by decide +kernel
theorem dX6_readRun_25 : decode cX6_readRun 25 = .ok (.getfield 22, 3) := by decide +kernel
theorem dX6_readRun_28 : decode cX6_readRun 28 = .ok (.iaload, 1) := by decide +kernel
theorem dX6_readRun_29 : decode cX6_readRun 29 = .ok (.istore_n 3, 1) := by decide +kernel
theorem dX6_readRun_30 : decode cX6_readRun 30 = .ok (.iload_n 3, 1) := by decide +kernel
theorem dX6_readRun_31 : decode cX6_readRun 31 = .ok (.bipush 97, 2) := by decide +kernel
theorem dX6_readRun_33 : decode cX6_readRun 33 = .ok (.if_icmp .lt 35, 3) := by decide +kernel
theorem dX6_readRun_36 : decode cX6_readRun 36 = .ok (.iload_n 3, 1) := by decide +kernel
theorem dX6_readRun_37 : decode cX6_readRun 37 = .ok (.bipush 122, 2) := by decide +kernel
theorem dX6_readRun_39 : decode cX6_readRun 39 = .ok (.if_icmp .gt 29, 3) := by decide +kernel
theorem dX6_readRun_42 : decode cX6_readRun 42 = .ok (.aload_n 0, 1) := by decide +kernel
theorem dX6_readRun_43 : decode cX6_readRun 43 = .ok (.aload_n 0, 1) := by decide +kernel
theorem dX6_readRun_44 : decode cX6_readRun 44 = .ok (.getfield 44, 3) := by decide +kernel
theorem dX6_readRun_47 : decode cX6_readRun 47 = .ok (.ldc2_w 64, 3) := by decide +kernel
theorem dX6_readRun_50 : decode cX6_readRun 50 = .ok (.lmul, 1) := by decide +kernel
theorem dX6_readRun_51 : decode cX6_readRun 51 = .ok (.iload_n 3, 1) := by decide +kernel
theorem dX6_readRun_52 : decode cX6_readRun 52 = .ok (.bipush 97, 2) := by decide +kernel
theorem dX6_readRun_54 : decode cX6_readRun 54 = .ok (.isub, 1) := by decide +kernel
theorem dX6_readRun_55 : decode cX6_readRun 55 = .ok (.iconst 1, 1) := by decide +kernel
theorem dX6_readRun_56 : decode cX6_readRun 56 = .ok (.iadd, 1) := by decide +kernel
theorem dX6_readRun_57 : decode cX6_readRun 57 = .ok (.i2l, 1) := by decide +kernel
theorem dX6_readRun_58 : decode cX6_readRun 58 = .ok (.ladd, 1) := by decide +kernel
theorem dX6_readRun_59 : decode cX6_readRun 59 = .ok (.putfield 44, 3) := by decide +kernel
theorem dX6_readRun_62 : decode cX6_readRun 62 = .ok (.iinc 1 1, 3) := by decide +kernel
theorem dX6_readRun_65 : decode cX6_readRun 65 = .ok (.goto 34, 3) := by decide +kernel
theorem dX6_readRun_68 : decode cX6_readRun 68 = .ok (.iload_n 3, 1) := by decide +kernel
theorem dX6_readRun_69 : decode cX6_readRun 69 = .ok (.bipush 48, 2) := by decide +kernel
theorem dX6_readRun_71 : decode cX6_readRun 71 = .ok (.if_icmp .lt 41, 3) := by decide +kernel
theorem dX6_readRun_74 : decode cX6_readRun 74 = .ok (.iload_n 3, 1) := by decide +kernel
theorem dX6_readRun_75 : decode cX6_readRun 75 = .ok (.bipush 57, 2) := by decide +kernel
theorem dX6_readRun_77 : decode cX6_readRun 77 = .ok (.if_icmp .gt 35, 3) := by decide +kernel
theorem dX6_readRun_80 : decode cX6_readRun 80 = .ok (.aload_n 0, 1) := by decide +kernel
theorem dX6_readRun_81 : decode cX6_readRun 81 = .ok (.aload_n 0, 1) := by decide +kernel
theorem dX6_readRun_82 : decode cX6_readRun 82 = .ok (.getfield 61, 3) := by decide +kernel
theorem dX6_readRun_85 : decode cX6_readRun 85 = .ok (.bipush 10, 2) := by decide +kernel
theorem dX6_readRun_87 : decode cX6_readRun 87 = .ok (.imul, 1) := by decide +kernel
theorem dX6_readRun_88 : decode cX6_readRun 88 = .ok (.iload_n 3, 1) := by decide +kernel
theorem dX6_readRun_89 : decode cX6_readRun 89 = .ok (.bipush 48, 2) := by decide +kernel
theorem dX6_readRun_91 : decode cX6_readRun 91 = .ok (.isub, 1) := by decide +kernel
theorem dX6_readRun_92 : decode cX6_readRun 92 = .ok (.iadd, 1) := by decide +kernel
theorem dX6_readRun_93 : decode cX6_readRun 93 = .ok (.putfield 61, 3) := by decide +kernel
theorem dX6_readRun_96 : decode cX6_readRun 96 = .ok (.iinc 2 1, 3) := by decide +kernel
theorem dX6_readRun_99 : decode cX6_readRun 99 = .ok (.aload_n 0, 1) := by decide +kernel
theorem dX6_readRun_100 : decode cX6_readRun 100 = .ok (.dup, 1) := by decide +kernel
theorem dX6_readRun_101 : decode cX6_readRun 101 = .ok (.getfield 22, 3) := by decide +kernel
theorem dX6_readRun_104 : decode cX6_readRun 104 = .ok (.iconst 1, 1) := by decide +kernel
theorem dX6_readRun_105 : decode cX6_readRun 105 = .ok (.iadd, 1) := by decide +kernel
theorem dX6_readRun_106 : decode cX6_readRun 106 = .ok (.putfield 22, 3) := by decide +kernel
theorem dX6_readRun_109 : decode cX6_readRun 109 = .ok (.goto (-100), 3) := by decide +kernel
theorem dX6_readRun_112 : decode cX6_readRun 112 = .ok (.iload_n 2, 1) := by decide +kernel
theorem dX6_readRun_113 : decode cX6_readRun 113 = .ok (.ifCond .ne 17, 3) := by decide +kernel
theorem dX6_readRun_116 : decode cX6_readRun 116 = .ok (.iload_n 1, 1) := by decide +kernel
theorem dX6_readRun_117 : decode cX6_readRun 117 = .ok (.bipush 7, 2) := by decide +kernel
theorem dX6_readRun_119 : decode cX6_readRun 119 = .ok (.if_icmp .gt 11, 3) := by decide +kernel
theorem dX6_readRun_122 : decode cX6_readRun 122 = .ok (.aload_n 0, 1) := by decide +kernel
theorem dX6_readRun_123 : decode cX6_readRun 123 = .ok (.iconst 2, 1) := by decide +kernel
theorem dX6_readRun_124 : decode cX6_readRun 124 = .ok (.putfield 51, 3) := by decide +kernel
theorem dX6_readRun_127 : decode cX6_readRun 127 = .ok (.goto 25, 3) := by decide +kernel
theorem dX6_readRun_130 : decode cX6_readRun 130 = .ok (.iload_n 1, 1) := by decide +kernel
theorem dX6_readRun_131 : decode cX6_readRun 131 = .ok (.ifCond .ne 16, 3) := by decide +kernel
theorem dX6_readRun_134 : decode cX6_readRun 134 = .ok (.iload_n 2, 1) := by decide +kernel
theorem dX6_readRun_135 : decode cX6_readRun 135 = .ok (.iconst 3, 1) := by decide +kernel
theorem dX6_readRun_136 : decode cX6_readRun 136 = .ok (.if_icmp .gt 11, 3) := by decide +kernel
theorem dX6_readRun_139 : decode cX6_readRun 139 = .ok (.aload_n 0, 1) := by decide +kernel
theorem dX6_readRun_140 : decode cX6_readRun 140 = .ok (.iconst 3, 1) := by decide +kernel
theorem dX6_readRun_141 : decode cX6_readRun 141 = .ok (.putfield 51, 3) := by decide +kernel
theorem dX6_readRun_144 : decode cX6_readRun 144 = .ok (.goto 8, 3) := by decide +kernel
theorem dX6_readRun_147 : decode cX6_readRun 147 = .ok (.aload_n 0, 1) := by decide +kernel
theorem dX6_readRun_148 : decode cX6_readRun 148 = .ok (.iconst 0, 1) := by decide +kernel
theorem dX6_readRun_149 : decode cX6_readRun 149 = .ok (.putfield 51, 3) := by decide +kernel
theorem dX6_readRun_152 : decode cX6_readRun 152 = .ok (.aload_n 0, 1) := by decide +kernel
theorem dX6_readRun_153 : decode cX6_readRun 153 = .ok (.getfield 51, 3) := by decide +kernel
theorem dX6_readRun_156 : decode cX6_readRun 156 = .ok (.iconst 2, 1) := by decide +kernel
theorem dX6_readRun_157 : decode cX6_readRun 157 = .ok (.if_icmp .eq 8, 3) := by decide +kernel
theorem dX6_readRun_160 : decode cX6_readRun 160 = .ok (.aload_n 0, 1) := by decide +kernel
theorem dX6_readRun_161 : decode cX6_readRun 161 = .ok (.lconst 0, 1) := by decide +kernel
theorem dX6_readRun_162 : decode cX6_readRun 162 = .ok (.putfield 44, 3) := by decide +kernel
theorem dX6_readRun_165 : decode cX6_readRun 165 = .ok (.return_, 1) := by decide +kernel
set_option maxHeartbeats 4000000 in
set_option maxRecDepth 100000 in
theorem s_X6_readRun (l : Launch) (D : va_G) (ca : Nat → ClassId) (sz : Nat) (h0 : Nat) (h0_bytes : Nat) (h0_length : Int32) (h0_faultKind : Int32) (h0_faultAt : Int32) (h0_letters : Int64) (h0_mostBytes : Int32) (h0_behind : Int32) (h0_at : Int32) (h0_kind : Int32) (h0_number : Int32) (F_h0_bytes : Nat → Int32) (i_h0_length : rg 0 940 h0_length) (i_h0_faultKind : rg 0 4 h0_faultKind) (i_h0_behind : rg 0 940 h0_behind) (s_h0_bytes_0 : sg 0 940 0 255 F_h0_bytes) : oMet l yX6_readRun wsX6_readRun ({ frames := 0, cells := 0, slots := 0, locals := 0 } : Room) [.ref h0] D ca sz [(h0, .inr (6, [.ref h0_bytes, .int h0_length, .int h0_faultKind, .int h0_faultAt, .long h0_letters, .int h0_mostBytes, .int h0_behind, .int h0_at, .int h0_kind, .int h0_number])), (aI ca h0_bytes 940 F_h0_bytes)] (oQv D (fun (u : Int64 × Int32 × Int32 × Int32) => (rg 0 940 u.2.1) ∧ (rg 0 3 u.2.2.1) ∧ (rl 0 h0_behind u.2.1)) (fun (u : Int64 × Int32 × Int32 × Int32) => [(h0, .inr (6, [.ref h0_bytes, .int h0_length, .int h0_faultKind, .int h0_faultAt, .long u.1, .int h0_mostBytes, .int u.2.1, .int h0_at, .int u.2.2.1, .int u.2.2.2])), (aI ca h0_bytes 940 F_h0_bytes)])) 0 0 := by
  refine oM (cc := cX6_readRun) (maxL := 4) (ret := none) (by decide) rfl (Nat.le_of_ble_eq_true rfl) [(0, .ref h0)] rfl ?_
  intro p e s m below meth c A H locs ls hx hb hr hml hts hown hlocks hin hK hP hD hA hS hl
  have hown : s.vm.findClass RX6 = some m.cls := hown
  have k1 := hts (.fieldLink RX6 51 "LidCourt$Reader" "kind" "I") (by decide +kernel)
  have k2 : ∀ w ∈ wsX60, w ∈ wsX6_readRun := fun _ h => List.mem_cons_of_mem _ (List.mem_append_right _ h)
  have k3 := hts (.fieldLink RX6 44 "LidCourt$Reader" "letters" "J") (by decide +kernel)
  have k4 := hts (.fieldLink RX6 22 "LidCourt$Reader" "behind" "I") (by decide +kernel)
  have k5 := hts (.fieldLink RX6 61 "LidCourt$Reader" "number" "I") (by decide +kernel)
  have k6 := hts (.fieldLink RX6 15 "LidCourt$Reader" "length" "I") (by decide +kernel)
  have k7 := hts (.fieldLink RX6 9 "LidCourt$Reader" "bytes" "[I") (by decide +kernel)
  have k8 := hts (.constantLong RX6 64 32) (by decide +kernel)
  have J152_1571 : ∀ (y152_0 : Int64) (y152_1 : Int32) (y152_2 : Int32) (y152_3 : Int32), rg 0 940 y152_1 → rl 0 h0_behind y152_1 → rg 0 3 y152_2 → ∀ (H : Heap) (locs : List Loc) (ls : Array Slot), va_P D vwCl [(h0, .inr (6, [.ref h0_bytes, .int h0_length, .int h0_faultKind, .int h0_faultAt, .long y152_0, .int h0_mostBytes, .int y152_1, .int h0_at, .int y152_2, .int y152_3])), (aI ca h0_bytes 940 F_h0_bytes)] H → va_D A [(h0, .inr (6, [.ref h0_bytes, .int h0_length, .int h0_faultKind, .int h0_faultAt, .long y152_0, .int h0_mostBytes, .int y152_1, .int h0_at, .int y152_2, .int y152_3])), (aI ca h0_bytes 940 F_h0_bytes)] → va_S A s.heap H locs → lv_has ls 4 [(0, .ref h0)] → W p l e ({ frames := 0, cells := 0, slots := 0, locals := 0 } : Room) s m ([.ref h0] : List Value).toArray below meth c H locs 0 0 (MQ below ((oQv D (fun (u : Int64 × Int32 × Int32 × Int32) => (rg 0 940 u.2.1) ∧ (rg 0 3 u.2.2.1) ∧ (rl 0 h0_behind u.2.1)) (fun (u : Int64 × Int32 × Int32 × Int32) => [(h0, .inr (6, [.ref h0_bytes, .int h0_length, .int h0_faultKind, .int h0_faultAt, .long u.1, .int h0_mostBytes, .int u.2.1, .int h0_at, .int u.2.2.1, .int u.2.2.2])), (aI ca h0_bytes 940 F_h0_bytes)])) A) ([.ref h0] : List Value).toArray s 0 0 A) (F0 m 152 ls []) := by
    intro y152_0 y152_1 y152_2 y152_3 hy152_1 py152_1_h0_behind hy152_2 H locs ls hP hD hS hl
    refine lv_aload_n hx hb dX6_readRun_152 rfl (lv_at hl 0 rfl) ?_
    refine va_get (D := D) (ci := 6) (v := .int y152_2) (C := RX6) (T := TX6) (N := 10) hx hb hts k2 hown hK.1 hP 0 rfl rfl 8 (by decide) k1 (fun _ h9 => h9) rfl dX6_readRun_153 ?_
    refine lv_iconst (v := 2) hx hb dX6_readRun_156 (by decide) ?_
    refine lv_icmp_eq (tgt := 165) hx hb dX6_readRun_157 (by decide) (fun c_1572 => ?_) (fun c_1572 => ?_)
    · skip
      have o_1573 : rl 0 y152_2 2 := rl_eq c_1572
      have h_1574 : rg 0 2 y152_2 := rl_x o_1573 hy152_2 (⟨by decide, by decide⟩ : rg 2 2 (2 : Int32)) (by decide) (by decide)
      have o_1575 : rl 0 2 y152_2 := rl_eq c_1572.symm
      have h_1576 : rg 2 2 y152_2 := rl_y o_1575 (⟨by decide, by decide⟩ : rg 2 2 (2 : Int32)) h_1574 (by decide) (by decide)
      exact oE_v hx hb hr hlocks hP hD hS (y152_0, y152_1, y152_2, y152_3) [0, 1] rfl (by decide) ⟨hy152_1, (rgw (lo := 0) (hi := 3) h_1576 (by decide) (by decide)), (show rl 0 h0_behind y152_1 from rlm (by have q0 := rle py152_1_h0_behind; omega))⟩ (Nat.le_of_ble_eq_true rfl) (Nat.le_of_ble_eq_true rfl) dX6_readRun_165
    · skip
      refine lv_aload_n hx hb dX6_readRun_160 rfl (lv_at hl 0 rfl) ?_
      refine lv_lconst (v := 0) hx hb dX6_readRun_161 (by decide) ?_
      refine va_put (D := D) (ci := 6) (v := .long 0) (ty := .long) (C := RX6) (T := TX6) (N := 10) hx hb hts k2 tyX6 tyX6_ok nmX6 hown hK.1 hP hD hS 0 rfl rfl 4 (by decide) k3 (fun _ h9 => h9) rfl (by decide +kernel) rfl rfl (Nat.le_of_ble_eq_true rfl) dX6_readRun_162 (fun H locs hP hD hS => ?_)
      have hP : va_P D vwCl [(h0, .inr (6, [.ref h0_bytes, .int h0_length, .int h0_faultKind, .int h0_faultAt, .long 0, .int h0_mostBytes, .int y152_1, .int h0_at, .int y152_2, .int y152_3])), (aI ca h0_bytes 940 F_h0_bytes)] H := hP
      have hD : va_D A [(h0, .inr (6, [.ref h0_bytes, .int h0_length, .int h0_faultKind, .int h0_faultAt, .long 0, .int h0_mostBytes, .int y152_1, .int h0_at, .int y152_2, .int y152_3])), (aI ca h0_bytes 940 F_h0_bytes)] := hD
      exact oE_v hx hb hr hlocks hP hD hS (0, y152_1, y152_2, y152_3) [0, 1] rfl (by decide) ⟨hy152_1, hy152_2, (show rl 0 h0_behind y152_1 from rlm (by have q0 := rle py152_1_h0_behind; omega))⟩ (Nat.le_of_ble_eq_true rfl) (Nat.le_of_ble_eq_true rfl) dX6_readRun_165
  have J147_1577 : ∀ (y147_0 : Int64) (y147_1 : Int32) (y147_2 : Int32), rg 0 940 y147_1 → rl 0 h0_behind y147_1 → ∀ (H : Heap) (locs : List Loc) (ls : Array Slot), va_P D vwCl [(h0, .inr (6, [.ref h0_bytes, .int h0_length, .int h0_faultKind, .int h0_faultAt, .long y147_0, .int h0_mostBytes, .int y147_1, .int h0_at, .int h0_kind, .int y147_2])), (aI ca h0_bytes 940 F_h0_bytes)] H → va_D A [(h0, .inr (6, [.ref h0_bytes, .int h0_length, .int h0_faultKind, .int h0_faultAt, .long y147_0, .int h0_mostBytes, .int y147_1, .int h0_at, .int h0_kind, .int y147_2])), (aI ca h0_bytes 940 F_h0_bytes)] → va_S A s.heap H locs → lv_has ls 4 [(0, .ref h0)] → W p l e ({ frames := 0, cells := 0, slots := 0, locals := 0 } : Room) s m ([.ref h0] : List Value).toArray below meth c H locs 0 0 (MQ below ((oQv D (fun (u : Int64 × Int32 × Int32 × Int32) => (rg 0 940 u.2.1) ∧ (rg 0 3 u.2.2.1) ∧ (rl 0 h0_behind u.2.1)) (fun (u : Int64 × Int32 × Int32 × Int32) => [(h0, .inr (6, [.ref h0_bytes, .int h0_length, .int h0_faultKind, .int h0_faultAt, .long u.1, .int h0_mostBytes, .int u.2.1, .int h0_at, .int u.2.2.1, .int u.2.2.2])), (aI ca h0_bytes 940 F_h0_bytes)])) A) ([.ref h0] : List Value).toArray s 0 0 A) (F0 m 147 ls []) := by
    intro y147_0 y147_1 y147_2 hy147_1 py147_1_h0_behind H locs ls hP hD hS hl
    refine lv_aload_n hx hb dX6_readRun_147 rfl (lv_at hl 0 rfl) ?_
    refine lv_iconst (v := 0) hx hb dX6_readRun_148 (by decide) ?_
    refine va_put (D := D) (ci := 6) (v := .int 0) (ty := .int) (C := RX6) (T := TX6) (N := 10) hx hb hts k2 tyX6 tyX6_ok nmX6 hown hK.1 hP hD hS 0 rfl rfl 8 (by decide) k1 (fun _ h9 => h9) rfl (by decide +kernel) rfl rfl (Nat.le_of_ble_eq_true rfl) dX6_readRun_149 (fun H locs hP hD hS => ?_)
    have hP : va_P D vwCl [(h0, .inr (6, [.ref h0_bytes, .int h0_length, .int h0_faultKind, .int h0_faultAt, .long y147_0, .int h0_mostBytes, .int y147_1, .int h0_at, .int 0, .int y147_2])), (aI ca h0_bytes 940 F_h0_bytes)] H := hP
    have hD : va_D A [(h0, .inr (6, [.ref h0_bytes, .int h0_length, .int h0_faultKind, .int h0_faultAt, .long y147_0, .int h0_mostBytes, .int y147_1, .int h0_at, .int 0, .int y147_2])), (aI ca h0_bytes 940 F_h0_bytes)] := hD
    exact J152_1571 y147_0 y147_1 0 y147_2 hy147_1 (rlm (by have q0 := rle py147_1_h0_behind; omega)) (⟨by decide, by decide⟩ : rg 0 3 (0 : Int32)) H locs ls (oPsub hP [0, 1] rfl) (hD.sub [0, 1] (by decide) rfl) hS (lv_sub hl [0] rfl)
  have J130_1578 : ∀ (y130_0 : Int32) (y130_1 : Int32) (y130_2 : Int64) (y130_3 : Int32) (y130_4 : Int32), rg 0 940 y130_3 → rl 0 h0_behind y130_3 → ∀ (H : Heap) (locs : List Loc) (ls : Array Slot), va_P D vwCl [(h0, .inr (6, [.ref h0_bytes, .int h0_length, .int h0_faultKind, .int h0_faultAt, .long y130_2, .int h0_mostBytes, .int y130_3, .int h0_at, .int h0_kind, .int y130_4])), (aI ca h0_bytes 940 F_h0_bytes)] H → va_D A [(h0, .inr (6, [.ref h0_bytes, .int h0_length, .int h0_faultKind, .int h0_faultAt, .long y130_2, .int h0_mostBytes, .int y130_3, .int h0_at, .int h0_kind, .int y130_4])), (aI ca h0_bytes 940 F_h0_bytes)] → va_S A s.heap H locs → lv_has ls 4 [(0, .ref h0), (1, .int y130_0), (2, .int y130_1)] → W p l e ({ frames := 0, cells := 0, slots := 0, locals := 0 } : Room) s m ([.ref h0] : List Value).toArray below meth c H locs 0 0 (MQ below ((oQv D (fun (u : Int64 × Int32 × Int32 × Int32) => (rg 0 940 u.2.1) ∧ (rg 0 3 u.2.2.1) ∧ (rl 0 h0_behind u.2.1)) (fun (u : Int64 × Int32 × Int32 × Int32) => [(h0, .inr (6, [.ref h0_bytes, .int h0_length, .int h0_faultKind, .int h0_faultAt, .long u.1, .int h0_mostBytes, .int u.2.1, .int h0_at, .int u.2.2.1, .int u.2.2.2])), (aI ca h0_bytes 940 F_h0_bytes)])) A) ([.ref h0] : List Value).toArray s 0 0 A) (F0 m 130 ls []) := by
    intro y130_0 y130_1 y130_2 y130_3 y130_4 hy130_3 py130_3_h0_behind H locs ls hP hD hS hl
    refine lv_iload_n hx hb dX6_readRun_130 rfl (lv_at hl 1 rfl) ?_
    refine lv_if_ne (tgt := 147) hx hb dX6_readRun_131 (by decide) (fun c_1579 => ?_) (fun c_1579 => ?_)
    · skip
      exact J147_1577 y130_2 y130_3 y130_4 hy130_3 (rlm (by have q0 := rle py130_3_h0_behind; omega)) H locs ls (oPsub hP [0, 1] rfl) (hD.sub [0, 1] (by decide) rfl) hS (lv_sub hl [0] rfl)
    · skip
      have o_1580 : rl 0 y130_0 0 := rl_eq c_1579
      have h_1581 : rg (-2147483648) 0 y130_0 := rl_x o_1580 (rga y130_0) (⟨by decide, by decide⟩ : rg 0 0 (0 : Int32)) (by decide) (by decide)
      have o_1582 : rl 0 0 y130_0 := rl_eq c_1579.symm
      have h_1583 : rg 0 0 y130_0 := rl_y o_1582 (⟨by decide, by decide⟩ : rg 0 0 (0 : Int32)) h_1581 (by decide) (by decide)
      refine lv_iload_n hx hb dX6_readRun_134 rfl (lv_at hl 2 rfl) ?_
      refine lv_iconst (v := 3) hx hb dX6_readRun_135 (by decide) ?_
      refine lv_icmp_gt (tgt := 147) hx hb dX6_readRun_136 (by decide) (fun c_1584 => ?_) (fun c_1584 => ?_)
      · skip
        have o_1585 : rl 1 3 y130_1 := rl_lt c_1584
        have h_1586 : rg 4 2147483647 y130_1 := rl_y o_1585 (⟨by decide, by decide⟩ : rg 3 3 (3 : Int32)) (rga y130_1) (by decide) (by decide)
        exact J147_1577 y130_2 y130_3 y130_4 hy130_3 (rlm (by have q0 := rle py130_3_h0_behind; omega)) H locs ls (oPsub hP [0, 1] rfl) (hD.sub [0, 1] (by decide) rfl) hS (lv_sub hl [0] rfl)
      · skip
        have o_1587 : rl 0 y130_1 3 := rl_nlt c_1584
        have h_1588 : rg (-2147483648) 3 y130_1 := rl_x o_1587 (rga y130_1) (⟨by decide, by decide⟩ : rg 3 3 (3 : Int32)) (by decide) (by decide)
        refine lv_aload_n hx hb dX6_readRun_139 rfl (lv_at hl 0 rfl) ?_
        refine lv_iconst (v := 3) hx hb dX6_readRun_140 (by decide) ?_
        refine va_put (D := D) (ci := 6) (v := .int 3) (ty := .int) (C := RX6) (T := TX6) (N := 10) hx hb hts k2 tyX6 tyX6_ok nmX6 hown hK.1 hP hD hS 0 rfl rfl 8 (by decide) k1 (fun _ h9 => h9) rfl (by decide +kernel) rfl rfl (Nat.le_of_ble_eq_true rfl) dX6_readRun_141 (fun H locs hP hD hS => ?_)
        have hP : va_P D vwCl [(h0, .inr (6, [.ref h0_bytes, .int h0_length, .int h0_faultKind, .int h0_faultAt, .long y130_2, .int h0_mostBytes, .int y130_3, .int h0_at, .int 3, .int y130_4])), (aI ca h0_bytes 940 F_h0_bytes)] H := hP
        have hD : va_D A [(h0, .inr (6, [.ref h0_bytes, .int h0_length, .int h0_faultKind, .int h0_faultAt, .long y130_2, .int h0_mostBytes, .int y130_3, .int h0_at, .int 3, .int y130_4])), (aI ca h0_bytes 940 F_h0_bytes)] := hD
        refine lv_goto (tgt := 152) hx hb dX6_readRun_144 (by decide) ?_
        exact J152_1571 y130_2 y130_3 3 y130_4 hy130_3 (rlm (by have q0 := rle py130_3_h0_behind; omega)) (⟨by decide, by decide⟩ : rg 0 3 (3 : Int32)) H locs ls (oPsub hP [0, 1] rfl) (hD.sub [0, 1] (by decide) rfl) hS (lv_sub hl [0] rfl)
  have J112_1589 : ∀ (y112_0 : Int32) (y112_1 : Int32) (y112_2 : Int64) (y112_3 : Int32) (y112_4 : Int32), rg 0 940 y112_3 → rl 0 h0_behind y112_3 → ∀ (H : Heap) (locs : List Loc) (ls : Array Slot), va_P D vwCl [(h0, .inr (6, [.ref h0_bytes, .int h0_length, .int h0_faultKind, .int h0_faultAt, .long y112_2, .int h0_mostBytes, .int y112_3, .int h0_at, .int h0_kind, .int y112_4])), (aI ca h0_bytes 940 F_h0_bytes)] H → va_D A [(h0, .inr (6, [.ref h0_bytes, .int h0_length, .int h0_faultKind, .int h0_faultAt, .long y112_2, .int h0_mostBytes, .int y112_3, .int h0_at, .int h0_kind, .int y112_4])), (aI ca h0_bytes 940 F_h0_bytes)] → va_S A s.heap H locs → lv_has ls 4 [(0, .ref h0), (1, .int y112_0), (2, .int y112_1)] → W p l e ({ frames := 0, cells := 0, slots := 0, locals := 0 } : Room) s m ([.ref h0] : List Value).toArray below meth c H locs 0 0 (MQ below ((oQv D (fun (u : Int64 × Int32 × Int32 × Int32) => (rg 0 940 u.2.1) ∧ (rg 0 3 u.2.2.1) ∧ (rl 0 h0_behind u.2.1)) (fun (u : Int64 × Int32 × Int32 × Int32) => [(h0, .inr (6, [.ref h0_bytes, .int h0_length, .int h0_faultKind, .int h0_faultAt, .long u.1, .int h0_mostBytes, .int u.2.1, .int h0_at, .int u.2.2.1, .int u.2.2.2])), (aI ca h0_bytes 940 F_h0_bytes)])) A) ([.ref h0] : List Value).toArray s 0 0 A) (F0 m 112 ls []) := by
    intro y112_0 y112_1 y112_2 y112_3 y112_4 hy112_3 py112_3_h0_behind H locs ls hP hD hS hl
    refine lv_iload_n hx hb dX6_readRun_112 rfl (lv_at hl 2 rfl) ?_
    refine lv_if_ne (tgt := 130) hx hb dX6_readRun_113 (by decide) (fun c_1590 => ?_) (fun c_1590 => ?_)
    · skip
      exact J130_1578 y112_0 y112_1 y112_2 y112_3 y112_4 hy112_3 (rlm (by have q0 := rle py112_3_h0_behind; omega)) H locs ls (oPsub hP [0, 1] rfl) (hD.sub [0, 1] (by decide) rfl) hS (lv_sub hl [0, 1, 2] rfl)
    · skip
      have o_1591 : rl 0 y112_1 0 := rl_eq c_1590
      have h_1592 : rg (-2147483648) 0 y112_1 := rl_x o_1591 (rga y112_1) (⟨by decide, by decide⟩ : rg 0 0 (0 : Int32)) (by decide) (by decide)
      have o_1593 : rl 0 0 y112_1 := rl_eq c_1590.symm
      have h_1594 : rg 0 0 y112_1 := rl_y o_1593 (⟨by decide, by decide⟩ : rg 0 0 (0 : Int32)) h_1592 (by decide) (by decide)
      refine lv_iload_n hx hb dX6_readRun_116 rfl (lv_at hl 1 rfl) ?_
      refine lv_bipush (v := 7) hx hb dX6_readRun_117 (by decide) ?_
      refine lv_icmp_gt (tgt := 130) hx hb dX6_readRun_119 (by decide) (fun c_1595 => ?_) (fun c_1595 => ?_)
      · skip
        have o_1596 : rl 1 7 y112_0 := rl_lt c_1595
        have h_1597 : rg 8 2147483647 y112_0 := rl_y o_1596 (⟨by decide, by decide⟩ : rg 7 7 (7 : Int32)) (rga y112_0) (by decide) (by decide)
        exact J130_1578 y112_0 y112_1 y112_2 y112_3 y112_4 hy112_3 (rlm (by have q0 := rle py112_3_h0_behind; omega)) H locs ls (oPsub hP [0, 1] rfl) (hD.sub [0, 1] (by decide) rfl) hS (lv_sub hl [0, 1, 2] rfl)
      · skip
        have o_1598 : rl 0 y112_0 7 := rl_nlt c_1595
        have h_1599 : rg (-2147483648) 7 y112_0 := rl_x o_1598 (rga y112_0) (⟨by decide, by decide⟩ : rg 7 7 (7 : Int32)) (by decide) (by decide)
        refine lv_aload_n hx hb dX6_readRun_122 rfl (lv_at hl 0 rfl) ?_
        refine lv_iconst (v := 2) hx hb dX6_readRun_123 (by decide) ?_
        refine va_put (D := D) (ci := 6) (v := .int 2) (ty := .int) (C := RX6) (T := TX6) (N := 10) hx hb hts k2 tyX6 tyX6_ok nmX6 hown hK.1 hP hD hS 0 rfl rfl 8 (by decide) k1 (fun _ h9 => h9) rfl (by decide +kernel) rfl rfl (Nat.le_of_ble_eq_true rfl) dX6_readRun_124 (fun H locs hP hD hS => ?_)
        have hP : va_P D vwCl [(h0, .inr (6, [.ref h0_bytes, .int h0_length, .int h0_faultKind, .int h0_faultAt, .long y112_2, .int h0_mostBytes, .int y112_3, .int h0_at, .int 2, .int y112_4])), (aI ca h0_bytes 940 F_h0_bytes)] H := hP
        have hD : va_D A [(h0, .inr (6, [.ref h0_bytes, .int h0_length, .int h0_faultKind, .int h0_faultAt, .long y112_2, .int h0_mostBytes, .int y112_3, .int h0_at, .int 2, .int y112_4])), (aI ca h0_bytes 940 F_h0_bytes)] := hD
        refine lv_goto (tgt := 152) hx hb dX6_readRun_127 (by decide) ?_
        exact J152_1571 y112_2 y112_3 2 y112_4 hy112_3 (rlm (by have q0 := rle py112_3_h0_behind; omega)) (⟨by decide, by decide⟩ : rg 0 3 (2 : Int32)) H locs ls (oPsub hP [0, 1] rfl) (hD.sub [0, 1] (by decide) rfl) hS (lv_sub hl [0] rfl)
  have J9_1600 : ∀ (n : Nat) (y9_0 : Int32) (y9_1 : Int32) (y9_2 : Int64) (y9_3 : Int32) (y9_4 : Int32), True → rg 0 940 y9_3 → rl 0 h0_behind y9_3 → 940 < y9_3.toInt + (n : Int) → ∀ (H : Heap) (locs : List Loc) (ls : Array Slot), va_P D vwCl [(h0, .inr (6, [.ref h0_bytes, .int h0_length, .int h0_faultKind, .int h0_faultAt, .long y9_2, .int h0_mostBytes, .int y9_3, .int h0_at, .int h0_kind, .int y9_4])), (aI ca h0_bytes 940 F_h0_bytes)] H → va_D A [(h0, .inr (6, [.ref h0_bytes, .int h0_length, .int h0_faultKind, .int h0_faultAt, .long y9_2, .int h0_mostBytes, .int y9_3, .int h0_at, .int h0_kind, .int y9_4])), (aI ca h0_bytes 940 F_h0_bytes)] → va_S A s.heap H locs → lv_has ls 4 [(0, .ref h0), (1, .int y9_0), (2, .int y9_1)] → W p l e ({ frames := 0, cells := 0, slots := 0, locals := 0 } : Room) s m ([.ref h0] : List Value).toArray below meth c H locs 0 0 (MQ below ((oQv D (fun (u : Int64 × Int32 × Int32 × Int32) => (rg 0 940 u.2.1) ∧ (rg 0 3 u.2.2.1) ∧ (rl 0 h0_behind u.2.1)) (fun (u : Int64 × Int32 × Int32 × Int32) => [(h0, .inr (6, [.ref h0_bytes, .int h0_length, .int h0_faultKind, .int h0_faultAt, .long u.1, .int h0_mostBytes, .int u.2.1, .int h0_at, .int u.2.2.1, .int u.2.2.2])), (aI ca h0_bytes 940 F_h0_bytes)])) A) ([.ref h0] : List Value).toArray s 0 0 A) (F0 m 9 ls []) := by
    intro n
    induction n with
    | zero => intro y9_0 y9_1 y9_2 y9_3 y9_4 _ hy9_3 py9_3_h0_behind hn; exact absurd hn (by have q9 := hy9_3.2; omega)
    | succ n ih =>
      intro y9_0 y9_1 y9_2 y9_3 y9_4 _ hy9_3 py9_3_h0_behind hn H locs ls hP hD hS hl
      have J99_1647 : ∀ (y99_0 : Int32) (y99_1 : Int32) (y99_2 : Int64) (y99_3 : Int32), rg 1 940 h0_length → rg 0 939 y9_3 → rl 1 y9_3 h0_length → ∀ (H : Heap) (locs : List Loc) (ls : Array Slot), va_P D vwCl [(h0, .inr (6, [.ref h0_bytes, .int h0_length, .int h0_faultKind, .int h0_faultAt, .long y99_2, .int h0_mostBytes, .int y9_3, .int h0_at, .int h0_kind, .int y99_3])), (aI ca h0_bytes 940 F_h0_bytes)] H → va_D A [(h0, .inr (6, [.ref h0_bytes, .int h0_length, .int h0_faultKind, .int h0_faultAt, .long y99_2, .int h0_mostBytes, .int y9_3, .int h0_at, .int h0_kind, .int y99_3])), (aI ca h0_bytes 940 F_h0_bytes)] → va_S A s.heap H locs → lv_has ls 4 [(0, .ref h0), (1, .int y99_0), (2, .int y99_1)] → W p l e ({ frames := 0, cells := 0, slots := 0, locals := 0 } : Room) s m ([.ref h0] : List Value).toArray below meth c H locs 0 0 (MQ below ((oQv D (fun (u : Int64 × Int32 × Int32 × Int32) => (rg 0 940 u.2.1) ∧ (rg 0 3 u.2.2.1) ∧ (rl 0 h0_behind u.2.1)) (fun (u : Int64 × Int32 × Int32 × Int32) => [(h0, .inr (6, [.ref h0_bytes, .int h0_length, .int h0_faultKind, .int h0_faultAt, .long u.1, .int h0_mostBytes, .int u.2.1, .int h0_at, .int u.2.2.1, .int u.2.2.2])), (aI ca h0_bytes 940 F_h0_bytes)])) A) ([.ref h0] : List Value).toArray s 0 0 A) (F0 m 99 ls []) := by
        intro y99_0 y99_1 y99_2 y99_3 t99_h0_length t99_y9_3 o99_y9_3_h0_length H locs ls hP hD hS hl
        refine lv_aload_n hx hb dX6_readRun_99 rfl (lv_at hl 0 rfl) ?_
        refine lv_dup hx hb dX6_readRun_100 rfl ?_
        refine va_get (D := D) (ci := 6) (v := .int y9_3) (C := RX6) (T := TX6) (N := 10) hx hb hts k2 hown hK.1 hP 0 rfl rfl 6 (by decide) k4 (fun _ h9 => h9) rfl dX6_readRun_101 ?_
        refine lv_iconst (v := 1) hx hb dX6_readRun_104 (by decide) ?_
        refine lv_iadd hx hb dX6_readRun_105 ?_
        refine lv_topi (fun x_1648 ex_1648 => ?_)
        have h_1649 : rg 1 940 x_1648 := by rw [ex_1648]; exact rg_add t99_y9_3 (⟨by decide, by decide⟩ : rg 1 1 (1 : Int32)) (by decide) (by decide) (by decide) (by decide)
        have l_1650 : lq x_1648.toInt (y9_3.toInt + 1) := lqm (by rw [ex_1648]; have q := tadd t99_y9_3 (⟨by decide, by decide⟩ : rg 1 1 (1 : Int32)) (by decide) (by decide); have r1 := lqe (lqm (by decide) : lq (1 : Int32).toInt 1); omega)
        refine va_put (D := D) (ci := 6) (v := .int x_1648) (ty := .int) (C := RX6) (T := TX6) (N := 10) hx hb hts k2 tyX6 tyX6_ok nmX6 hown hK.1 hP hD hS 0 rfl rfl 6 (by decide) k4 (fun _ h9 => h9) rfl (by decide +kernel) rfl rfl (Nat.le_of_ble_eq_true rfl) dX6_readRun_106 (fun H locs hP hD hS => ?_)
        have hP : va_P D vwCl [(h0, .inr (6, [.ref h0_bytes, .int h0_length, .int h0_faultKind, .int h0_faultAt, .long y99_2, .int h0_mostBytes, .int x_1648, .int h0_at, .int h0_kind, .int y99_3])), (aI ca h0_bytes 940 F_h0_bytes)] H := hP
        have hD : va_D A [(h0, .inr (6, [.ref h0_bytes, .int h0_length, .int h0_faultKind, .int h0_faultAt, .long y99_2, .int h0_mostBytes, .int x_1648, .int h0_at, .int h0_kind, .int y99_3])), (aI ca h0_bytes 940 F_h0_bytes)] := hD
        refine lv_goto (tgt := 9) hx hb dX6_readRun_109 (by decide) ?_
        exact ih y99_0 y99_1 y99_2 x_1648 y99_3 trivial (rgw (lo := 0) (hi := 940) h_1649 (by decide) (by decide)) (rlm (by have q0 := lqe l_1650; have q1 := rle py9_3_h0_behind; omega)) (by have q0 := lqe l_1650; omega) H locs ls (oPsub hP [0, 1] rfl) (hD.sub [0, 1] (by decide) rfl) hS (lv_sub hl [0, 1, 2] rfl)
      have J68_1651 : ∀ (y68_0 : Int32), rg 0 255 y68_0 → rg 1 940 h0_length → rg 0 939 y9_3 → rl 1 y9_3 h0_length → ∀ (H : Heap) (locs : List Loc) (ls : Array Slot), va_P D vwCl [(h0, .inr (6, [.ref h0_bytes, .int h0_length, .int h0_faultKind, .int h0_faultAt, .long y9_2, .int h0_mostBytes, .int y9_3, .int h0_at, .int h0_kind, .int y9_4])), (aI ca h0_bytes 940 F_h0_bytes)] H → va_D A [(h0, .inr (6, [.ref h0_bytes, .int h0_length, .int h0_faultKind, .int h0_faultAt, .long y9_2, .int h0_mostBytes, .int y9_3, .int h0_at, .int h0_kind, .int y9_4])), (aI ca h0_bytes 940 F_h0_bytes)] → va_S A s.heap H locs → lv_has ls 4 [(0, .ref h0), (1, .int y9_0), (2, .int y9_1), (3, .int y68_0)] → W p l e ({ frames := 0, cells := 0, slots := 0, locals := 0 } : Room) s m ([.ref h0] : List Value).toArray below meth c H locs 0 0 (MQ below ((oQv D (fun (u : Int64 × Int32 × Int32 × Int32) => (rg 0 940 u.2.1) ∧ (rg 0 3 u.2.2.1) ∧ (rl 0 h0_behind u.2.1)) (fun (u : Int64 × Int32 × Int32 × Int32) => [(h0, .inr (6, [.ref h0_bytes, .int h0_length, .int h0_faultKind, .int h0_faultAt, .long u.1, .int h0_mostBytes, .int u.2.1, .int h0_at, .int u.2.2.1, .int u.2.2.2])), (aI ca h0_bytes 940 F_h0_bytes)])) A) ([.ref h0] : List Value).toArray s 0 0 A) (F0 m 68 ls []) := by
        intro y68_0 hy68_0 t68_h0_length t68_y9_3 o68_y9_3_h0_length H locs ls hP hD hS hl
        refine lv_iload_n hx hb dX6_readRun_68 rfl (lv_at hl 3 rfl) ?_
        refine lv_bipush (v := 48) hx hb dX6_readRun_69 (by decide) ?_
        refine lv_icmp_lt (tgt := 112) hx hb dX6_readRun_71 (by decide) (fun c_1652 => ?_) (fun c_1652 => ?_)
        · skip
          have o_1653 : rl 1 y68_0 48 := rl_lt c_1652
          have h_1654 : rg 0 47 y68_0 := rl_x o_1653 hy68_0 (⟨by decide, by decide⟩ : rg 48 48 (48 : Int32)) (by decide) (by decide)
          exact J112_1589 y9_0 y9_1 y9_2 y9_3 y9_4 (rgw (lo := 0) (hi := 940) t68_y9_3 (by decide) (by decide)) (rlm (by have q0 := rle py9_3_h0_behind; omega)) H locs ls (oPsub hP [0, 1] rfl) (hD.sub [0, 1] (by decide) rfl) hS (lv_sub hl [0, 1, 2] rfl)
        · skip
          have o_1655 : rl 0 48 y68_0 := rl_nlt c_1652
          have h_1656 : rg 48 255 y68_0 := rl_y o_1655 (⟨by decide, by decide⟩ : rg 48 48 (48 : Int32)) hy68_0 (by decide) (by decide)
          refine lv_iload_n hx hb dX6_readRun_74 rfl (lv_at hl 3 rfl) ?_
          refine lv_bipush (v := 57) hx hb dX6_readRun_75 (by decide) ?_
          refine lv_icmp_gt (tgt := 112) hx hb dX6_readRun_77 (by decide) (fun c_1657 => ?_) (fun c_1657 => ?_)
          · skip
            have o_1658 : rl 1 57 y68_0 := rl_lt c_1657
            have h_1659 : rg 58 255 y68_0 := rl_y o_1658 (⟨by decide, by decide⟩ : rg 57 57 (57 : Int32)) h_1656 (by decide) (by decide)
            exact J112_1589 y9_0 y9_1 y9_2 y9_3 y9_4 (rgw (lo := 0) (hi := 940) t68_y9_3 (by decide) (by decide)) (rlm (by have q0 := rle py9_3_h0_behind; omega)) H locs ls (oPsub hP [0, 1] rfl) (hD.sub [0, 1] (by decide) rfl) hS (lv_sub hl [0, 1, 2] rfl)
          · skip
            have o_1660 : rl 0 y68_0 57 := rl_nlt c_1657
            have h_1661 : rg 48 57 y68_0 := rl_x o_1660 h_1656 (⟨by decide, by decide⟩ : rg 57 57 (57 : Int32)) (by decide) (by decide)
            refine lv_aload_n hx hb dX6_readRun_80 rfl (lv_at hl 0 rfl) ?_
            refine lv_aload_n hx hb dX6_readRun_81 rfl (lv_at hl 0 rfl) ?_
            refine va_get (D := D) (ci := 6) (v := .int y9_4) (C := RX6) (T := TX6) (N := 10) hx hb hts k2 hown hK.1 hP 0 rfl rfl 9 (by decide) k5 (fun _ h9 => h9) rfl dX6_readRun_82 ?_
            refine lv_bipush (v := 10) hx hb dX6_readRun_85 (by decide) ?_
            refine lv_imul hx hb dX6_readRun_87 ?_
            refine lv_topi (fun x_1662 ex_1662 => ?_)
            refine lv_iload_n hx hb dX6_readRun_88 rfl (lv_at hl 3 rfl) ?_
            refine lv_bipush (v := 48) hx hb dX6_readRun_89 (by decide) ?_
            refine lv_isub hx hb dX6_readRun_91 ?_
            refine lv_topi (fun x_1663 ex_1663 => ?_)
            have h_1664 : rg 0 9 x_1663 := by rw [ex_1663]; exact rg_sub h_1661 (⟨by decide, by decide⟩ : rg 48 48 (48 : Int32)) (by decide) (by decide) (by decide) (by decide)
            have l_1665 : lq x_1663.toInt (y68_0.toInt + (-48)) := lqm (by rw [ex_1663]; have q := tsub h_1661 (⟨by decide, by decide⟩ : rg 48 48 (48 : Int32)) (by decide) (by decide); have r1 := lqe (lqm (by decide) : lq (48 : Int32).toInt 48); omega)
            refine lv_iadd hx hb dX6_readRun_92 ?_
            refine lv_topi (fun x_1666 ex_1666 => ?_)
            refine va_put (D := D) (ci := 6) (v := .int x_1666) (ty := .int) (C := RX6) (T := TX6) (N := 10) hx hb hts k2 tyX6 tyX6_ok nmX6 hown hK.1 hP hD hS 0 rfl rfl 9 (by decide) k5 (fun _ h9 => h9) rfl (by decide +kernel) rfl rfl (Nat.le_of_ble_eq_true rfl) dX6_readRun_93 (fun H locs hP hD hS => ?_)
            have hP : va_P D vwCl [(h0, .inr (6, [.ref h0_bytes, .int h0_length, .int h0_faultKind, .int h0_faultAt, .long y9_2, .int h0_mostBytes, .int y9_3, .int h0_at, .int h0_kind, .int x_1666])), (aI ca h0_bytes 940 F_h0_bytes)] H := hP
            have hD : va_D A [(h0, .inr (6, [.ref h0_bytes, .int h0_length, .int h0_faultKind, .int h0_faultAt, .long y9_2, .int h0_mostBytes, .int y9_3, .int h0_at, .int h0_kind, .int x_1666])), (aI ca h0_bytes 940 F_h0_bytes)] := hD
            obtain ⟨x_1667, ex_1667⟩ : ∃ y : Int32, y = y9_1 + 1 := ⟨_, rfl⟩
            refine lv_iinc (v := x_1667) (lv' := [(2, .int x_1667), (0, .ref h0), (1, .int y9_0), (3, .int y68_0)]) hx hb dX6_readRun_96 hl (k := 2) rfl (by rw [ex_1667]; rfl) (by decide) rfl (fun ls hl => ?_)
            exact J99_1647 y9_0 x_1667 y9_2 x_1666 t68_h0_length t68_y9_3 o68_y9_3_h0_length H locs ls (oPsub hP [0, 1] rfl) (hD.sub [0, 1] (by decide) rfl) hS (lv_sub hl [1, 2, 0] rfl)
      refine lv_aload_n hx hb dX6_readRun_9 rfl (lv_at hl 0 rfl) ?_
      refine va_get (D := D) (ci := 6) (v := .int y9_3) (C := RX6) (T := TX6) (N := 10) hx hb hts k2 hown hK.1 hP 0 rfl rfl 6 (by decide) k4 (fun _ h9 => h9) rfl dX6_readRun_10 ?_
      refine lv_aload_n hx hb dX6_readRun_13 rfl (lv_at hl 0 rfl) ?_
      refine va_get (D := D) (ci := 6) (v := .int h0_length) (C := RX6) (T := TX6) (N := 10) hx hb hts k2 hown hK.1 hP 0 rfl rfl 1 (by decide) k6 (fun _ h9 => h9) rfl dX6_readRun_14 ?_
      refine lv_icmp_ge (tgt := 112) hx hb dX6_readRun_17 (by decide) (fun c_1668 => ?_) (fun c_1668 => ?_)
      · skip
        have o_1669 : rl 0 h0_length y9_3 := rl_le c_1668
        exact J112_1589 y9_0 y9_1 y9_2 y9_3 y9_4 hy9_3 (rlm (by have q0 := rle py9_3_h0_behind; omega)) H locs ls (oPsub hP [0, 1] rfl) (hD.sub [0, 1] (by decide) rfl) hS (lv_sub hl [0, 1, 2] rfl)
      · skip
        have o_1670 : rl 1 y9_3 h0_length := rl_nle c_1668
        have h_1671 : rg 0 939 y9_3 := rl_x o_1670 hy9_3 i_h0_length (by decide) (by decide)
        have h_1672 : rg 1 940 h0_length := rl_y o_1670 hy9_3 i_h0_length (by decide) (by decide)
        refine lv_aload_n hx hb dX6_readRun_20 rfl (lv_at hl 0 rfl) ?_
        refine va_get (D := D) (ci := 6) (v := .ref h0_bytes) (C := RX6) (T := TX6) (N := 10) hx hb hts k2 hown hK.1 hP 0 rfl rfl 0 (by decide) k7 (fun _ h9 => h9) rfl dX6_readRun_21 ?_
        refine lv_aload_n hx hb dX6_readRun_24 rfl (lv_at hl 0 rfl) ?_
        refine va_get (D := D) (ci := 6) (v := .int y9_3) (C := RX6) (T := TX6) (N := 10) hx hb hts k2 hown hK.1 hP 0 rfl rfl 6 (by decide) k4 (fun _ h9 => h9) rfl dX6_readRun_25 ?_
        refine va_iald hx hb hK.1 hP 1 0 rfl rfl (rg_in h_1671 (by decide) (by decide)) dX6_readRun_28 ?_
        refine lv_topi (fun x_1673 ex_1673 => ?_)
        have h_1674 : rg 0 255 x_1673 := by rw [ex_1673]; exact sg_at (sg_w (a' := 0) (b' := 940) (lo' := 0) (hi' := 255) s_h0_bytes_0 (by decide) (by decide) (by decide) (by decide)) h_1671 (by decide) (by decide) (by decide)
        refine lv_istore_n (lv' := [(3, .int x_1673), (0, .ref h0), (1, .int y9_0), (2, .int y9_1)]) hx hb dX6_readRun_29 rfl hl (by decide) rfl (fun ls hl => ?_)
        refine lv_iload_n hx hb dX6_readRun_30 rfl (lv_at hl 0 rfl) ?_
        refine lv_bipush (v := 97) hx hb dX6_readRun_31 (by decide) ?_
        refine lv_icmp_lt (tgt := 68) hx hb dX6_readRun_33 (by decide) (fun c_1675 => ?_) (fun c_1675 => ?_)
        · skip
          have o_1676 : rl 1 x_1673 97 := rl_lt c_1675
          have h_1677 : rg 0 96 x_1673 := rl_x o_1676 h_1674 (⟨by decide, by decide⟩ : rg 97 97 (97 : Int32)) (by decide) (by decide)
          exact J68_1651 x_1673 (rgw (lo := 0) (hi := 255) h_1677 (by decide) (by decide)) h_1672 h_1671 o_1670 H locs ls (oPsub hP [0, 1] rfl) (hD.sub [0, 1] (by decide) rfl) hS (lv_sub hl [1, 2, 3, 0] rfl)
        · skip
          have o_1678 : rl 0 97 x_1673 := rl_nlt c_1675
          have h_1679 : rg 97 255 x_1673 := rl_y o_1678 (⟨by decide, by decide⟩ : rg 97 97 (97 : Int32)) h_1674 (by decide) (by decide)
          refine lv_iload_n hx hb dX6_readRun_36 rfl (lv_at hl 0 rfl) ?_
          refine lv_bipush (v := 122) hx hb dX6_readRun_37 (by decide) ?_
          refine lv_icmp_gt (tgt := 68) hx hb dX6_readRun_39 (by decide) (fun c_1680 => ?_) (fun c_1680 => ?_)
          · skip
            have o_1681 : rl 1 122 x_1673 := rl_lt c_1680
            have h_1682 : rg 123 255 x_1673 := rl_y o_1681 (⟨by decide, by decide⟩ : rg 122 122 (122 : Int32)) h_1679 (by decide) (by decide)
            exact J68_1651 x_1673 (rgw (lo := 0) (hi := 255) h_1682 (by decide) (by decide)) h_1672 h_1671 o_1670 H locs ls (oPsub hP [0, 1] rfl) (hD.sub [0, 1] (by decide) rfl) hS (lv_sub hl [1, 2, 3, 0] rfl)
          · skip
            have o_1683 : rl 0 x_1673 122 := rl_nlt c_1680
            have h_1684 : rg 97 122 x_1673 := rl_x o_1683 h_1679 (⟨by decide, by decide⟩ : rg 122 122 (122 : Int32)) (by decide) (by decide)
            refine lv_aload_n hx hb dX6_readRun_42 rfl (lv_at hl 1 rfl) ?_
            refine lv_aload_n hx hb dX6_readRun_43 rfl (lv_at hl 1 rfl) ?_
            refine va_get (D := D) (ci := 6) (v := .long y9_2) (C := RX6) (T := TX6) (N := 10) hx hb hts k2 hown hK.1 hP 0 rfl rfl 4 (by decide) k3 (fun _ h9 => h9) rfl dX6_readRun_44 ?_
            refine lv_ldc2 (v := 32) hx hb hown k8 dX6_readRun_47 ?_
            refine lv_lmul hx hb dX6_readRun_50 ?_
            refine lv_topl (fun x_1685 ex_1685 => ?_)
            refine lv_iload_n hx hb dX6_readRun_51 rfl (lv_at hl 0 rfl) ?_
            refine lv_bipush (v := 97) hx hb dX6_readRun_52 (by decide) ?_
            refine lv_isub hx hb dX6_readRun_54 ?_
            refine lv_topi (fun x_1686 ex_1686 => ?_)
            have h_1687 : rg 0 25 x_1686 := by rw [ex_1686]; exact rg_sub h_1684 (⟨by decide, by decide⟩ : rg 97 97 (97 : Int32)) (by decide) (by decide) (by decide) (by decide)
            have l_1688 : lq x_1686.toInt (x_1673.toInt + (-97)) := lqm (by rw [ex_1686]; have q := tsub h_1684 (⟨by decide, by decide⟩ : rg 97 97 (97 : Int32)) (by decide) (by decide); have r1 := lqe (lqm (by decide) : lq (97 : Int32).toInt 97); omega)
            refine lv_iconst (v := 1) hx hb dX6_readRun_55 (by decide) ?_
            refine lv_iadd hx hb dX6_readRun_56 ?_
            refine lv_topi (fun x_1689 ex_1689 => ?_)
            have h_1690 : rg 1 26 x_1689 := by rw [ex_1689]; exact rg_add h_1687 (⟨by decide, by decide⟩ : rg 1 1 (1 : Int32)) (by decide) (by decide) (by decide) (by decide)
            have l_1691 : lq x_1689.toInt (x_1673.toInt + (-96)) := lqm (by rw [ex_1689]; have q := tadd h_1687 (⟨by decide, by decide⟩ : rg 1 1 (1 : Int32)) (by decide) (by decide); have r0 := lqe l_1688; have r1 := lqe (lqm (by decide) : lq (1 : Int32).toInt 1); omega)
            refine lv_i2l hx hb dX6_readRun_57 rfl ?_
            refine lv_topl (fun x_1692 ex_1692 => ?_)
            refine lv_ladd hx hb dX6_readRun_58 ?_
            refine lv_topl (fun x_1693 ex_1693 => ?_)
            refine va_put (D := D) (ci := 6) (v := .long x_1693) (ty := .long) (C := RX6) (T := TX6) (N := 10) hx hb hts k2 tyX6 tyX6_ok nmX6 hown hK.1 hP hD hS 0 rfl rfl 4 (by decide) k3 (fun _ h9 => h9) rfl (by decide +kernel) rfl rfl (Nat.le_of_ble_eq_true rfl) dX6_readRun_59 (fun H locs hP hD hS => ?_)
            have hP : va_P D vwCl [(h0, .inr (6, [.ref h0_bytes, .int h0_length, .int h0_faultKind, .int h0_faultAt, .long x_1693, .int h0_mostBytes, .int y9_3, .int h0_at, .int h0_kind, .int y9_4])), (aI ca h0_bytes 940 F_h0_bytes)] H := hP
            have hD : va_D A [(h0, .inr (6, [.ref h0_bytes, .int h0_length, .int h0_faultKind, .int h0_faultAt, .long x_1693, .int h0_mostBytes, .int y9_3, .int h0_at, .int h0_kind, .int y9_4])), (aI ca h0_bytes 940 F_h0_bytes)] := hD
            obtain ⟨x_1694, ex_1694⟩ : ∃ y : Int32, y = y9_0 + 1 := ⟨_, rfl⟩
            refine lv_iinc (v := x_1694) (lv' := [(1, .int x_1694), (3, .int x_1673), (0, .ref h0), (2, .int y9_1)]) hx hb dX6_readRun_62 hl (k := 2) rfl (by rw [ex_1694]; rfl) (by decide) rfl (fun ls hl => ?_)
            refine lv_goto (tgt := 99) hx hb dX6_readRun_65 (by decide) ?_
            exact J99_1647 x_1694 y9_1 x_1693 y9_4 h_1672 h_1671 o_1670 H locs ls (oPsub hP [0, 1] rfl) (hD.sub [0, 1] (by decide) rfl) hS (lv_sub hl [2, 0, 3] rfl)
  refine lv_iconst (v := 0) hx hb dX6_readRun_0 (by decide) ?_
  refine lv_istore_n (lv' := [(1, .int 0), (0, .ref h0)]) hx hb dX6_readRun_1 rfl hl (by decide) rfl (fun ls hl => ?_)
  refine lv_iconst (v := 0) hx hb dX6_readRun_2 (by decide) ?_
  refine lv_istore_n (lv' := [(2, .int 0), (1, .int 0), (0, .ref h0)]) hx hb dX6_readRun_3 rfl hl (by decide) rfl (fun ls hl => ?_)
  refine lv_aload_n hx hb dX6_readRun_4 rfl (lv_at hl 2 rfl) ?_
  refine lv_iconst (v := 0) hx hb dX6_readRun_5 (by decide) ?_
  refine va_put (D := D) (ci := 6) (v := .int 0) (ty := .int) (C := RX6) (T := TX6) (N := 10) hx hb hts k2 tyX6 tyX6_ok nmX6 hown hK.1 hP hD hS 0 rfl rfl 9 (by decide) k5 (fun _ h9 => h9) rfl (by decide +kernel) rfl rfl (Nat.le_of_ble_eq_true rfl) dX6_readRun_6 (fun H locs hP hD hS => ?_)
  have hP : va_P D vwCl [(h0, .inr (6, [.ref h0_bytes, .int h0_length, .int h0_faultKind, .int h0_faultAt, .long h0_letters, .int h0_mostBytes, .int h0_behind, .int h0_at, .int h0_kind, .int 0])), (aI ca h0_bytes 940 F_h0_bytes)] H := hP
  have hD : va_D A [(h0, .inr (6, [.ref h0_bytes, .int h0_length, .int h0_faultKind, .int h0_faultAt, .long h0_letters, .int h0_mostBytes, .int h0_behind, .int h0_at, .int h0_kind, .int 0])), (aI ca h0_bytes 940 F_h0_bytes)] := hD
  exact J9_1600 941 0 0 h0_letters h0_behind 0 trivial i_h0_behind (rlm (by omega)) (by have q0 := i_h0_behind.1; omega) H locs ls (oPsub hP [0, 1] rfl) (hD.sub [0, 1] (by decide) rfl) hS (lv_sub hl [2, 1, 0] rfl)
theorem dX6_isSign_0 : decode cX6_isSign 0 = .ok (.iload_n 0, 1) := by decide +kernel
theorem dX6_isSign_1 : decode cX6_isSign 1 = .ok (.bipush 59, 2) := by decide +kernel
theorem dX6_isSign_3 : decode cX6_isSign 3 = .ok (.if_icmp .eq 33, 3) := by decide +kernel
theorem dX6_isSign_6 : decode cX6_isSign 6 = .ok (.iload_n 0, 1) := by decide +kernel
theorem dX6_isSign_7 : decode cX6_isSign 7 = .ok (.bipush 60, 2) := by decide +kernel
theorem dX6_isSign_9 : decode cX6_isSign 9 = .ok (.if_icmp .eq 27, 3) := by decide +kernel
theorem dX6_isSign_12 : decode cX6_isSign 12 = .ok (.iload_n 0, 1) := by decide +kernel
theorem dX6_isSign_13 : decode cX6_isSign 13 = .ok (.bipush 61, 2) := by decide +kernel
theorem dX6_isSign_15 : decode cX6_isSign 15 = .ok (.if_icmp .eq 21, 3) := by decide +kernel
theorem dX6_isSign_18 : decode cX6_isSign 18 = .ok (.iload_n 0, 1) := by decide +kernel
theorem dX6_isSign_19 : decode cX6_isSign 19 = .ok (.bipush 62, 2) := by decide +kernel
theorem dX6_isSign_21 : decode cX6_isSign 21 = .ok (.if_icmp .eq 15, 3) := by decide +kernel
theorem dX6_isSign_24 : decode cX6_isSign 24 = .ok (.iload_n 0, 1) := by decide +kernel
theorem dX6_isSign_25 : decode cX6_isSign 25 = .ok (.bipush 40, 2) := by decide +kernel
theorem dX6_isSign_27 : decode cX6_isSign 27 = .ok (.if_icmp .eq 9, 3) := by decide +kernel
theorem dX6_isSign_30 : decode cX6_isSign 30 = .ok (.iload_n 0, 1) := by decide +kernel
theorem dX6_isSign_31 : decode cX6_isSign 31 = .ok (.bipush 41, 2) := by decide +kernel
theorem dX6_isSign_33 : decode cX6_isSign 33 = .ok (.if_icmp .ne 7, 3) := by decide +kernel
theorem dX6_isSign_36 : decode cX6_isSign 36 = .ok (.iconst 1, 1) := by decide +kernel
theorem dX6_isSign_37 : decode cX6_isSign 37 = .ok (.goto 4, 3) := by decide +kernel
theorem dX6_isSign_40 : decode cX6_isSign 40 = .ok (.iconst 0, 1) := by decide +kernel
theorem dX6_isSign_41 : decode cX6_isSign 41 = .ok (.ireturn, 1) := by decide +kernel
set_option maxHeartbeats 4000000 in
set_option maxRecDepth 100000 in
theorem s_X6_isSign (l : Launch) (D : va_G) (ca : Nat → ClassId) (sz : Nat) (a1 : Int32)  : oMet l yX6_isSign wsX6_isSign ({ frames := 0, cells := 0, slots := 0, locals := 0 } : Room) [.int a1] D ca sz [] (oQi D (fun (r : Int32) (u : Unit) => ((r = 1) ∧ (rg 40 62 a1)) ∨ ((r = 0))) (fun (u : Unit) => [])) 0 0 := by
  refine oM (cc := cX6_isSign) (maxL := 1) (ret := (some .boolean)) (by decide) rfl (Nat.le_of_ble_eq_true rfl) [(0, .int a1)] rfl ?_
  intro p e s m below meth c A H locs ls hx hb hr hml hts hown hlocks hin hK hP hD hA hS hl
  have hown : s.vm.findClass RX6 = some m.cls := hown
  refine lv_iload_n hx hb dX6_isSign_0 rfl (lv_at hl 0 rfl) ?_
  refine lv_bipush (v := 59) hx hb dX6_isSign_1 (by decide) ?_
  refine lv_icmp_eq (tgt := 36) hx hb dX6_isSign_3 (by decide) (fun c_31 => ?_) (fun c_31 => ?_)
  · skip
    have o_32 : rl 0 a1 59 := rl_eq c_31
    have h_33 : rg (-2147483648) 59 a1 := rl_x o_32 (rga a1) (⟨by decide, by decide⟩ : rg 59 59 (59 : Int32)) (by decide) (by decide)
    have o_34 : rl 0 59 a1 := rl_eq c_31.symm
    have h_35 : rg 59 59 a1 := rl_y o_34 (⟨by decide, by decide⟩ : rg 59 59 (59 : Int32)) h_33 (by decide) (by decide)
    refine lv_iconst (v := 1) hx hb dX6_isSign_36 (by decide) ?_
    refine lv_goto (tgt := 41) hx hb dX6_isSign_37 (by decide) ?_
    exact oE_i hx hb hr (by decide) hlocks hP hD hS () [] rfl (by decide) (Or.inl ⟨rfl, (rgw (lo := 40) (hi := 62) h_35 (by decide) (by decide))⟩) (Nat.le_of_ble_eq_true rfl) (Nat.le_of_ble_eq_true rfl) dX6_isSign_41
  · skip
    refine lv_iload_n hx hb dX6_isSign_6 rfl (lv_at hl 0 rfl) ?_
    refine lv_bipush (v := 60) hx hb dX6_isSign_7 (by decide) ?_
    refine lv_icmp_eq (tgt := 36) hx hb dX6_isSign_9 (by decide) (fun c_36 => ?_) (fun c_36 => ?_)
    · skip
      have o_37 : rl 0 a1 60 := rl_eq c_36
      have h_38 : rg (-2147483648) 60 a1 := rl_x o_37 (rga a1) (⟨by decide, by decide⟩ : rg 60 60 (60 : Int32)) (by decide) (by decide)
      have o_39 : rl 0 60 a1 := rl_eq c_36.symm
      have h_40 : rg 60 60 a1 := rl_y o_39 (⟨by decide, by decide⟩ : rg 60 60 (60 : Int32)) h_38 (by decide) (by decide)
      refine lv_iconst (v := 1) hx hb dX6_isSign_36 (by decide) ?_
      refine lv_goto (tgt := 41) hx hb dX6_isSign_37 (by decide) ?_
      exact oE_i hx hb hr (by decide) hlocks hP hD hS () [] rfl (by decide) (Or.inl ⟨rfl, (rgw (lo := 40) (hi := 62) h_40 (by decide) (by decide))⟩) (Nat.le_of_ble_eq_true rfl) (Nat.le_of_ble_eq_true rfl) dX6_isSign_41
    · skip
      refine lv_iload_n hx hb dX6_isSign_12 rfl (lv_at hl 0 rfl) ?_
      refine lv_bipush (v := 61) hx hb dX6_isSign_13 (by decide) ?_
      refine lv_icmp_eq (tgt := 36) hx hb dX6_isSign_15 (by decide) (fun c_41 => ?_) (fun c_41 => ?_)
      · skip
        have o_42 : rl 0 a1 61 := rl_eq c_41
        have h_43 : rg (-2147483648) 61 a1 := rl_x o_42 (rga a1) (⟨by decide, by decide⟩ : rg 61 61 (61 : Int32)) (by decide) (by decide)
        have o_44 : rl 0 61 a1 := rl_eq c_41.symm
        have h_45 : rg 61 61 a1 := rl_y o_44 (⟨by decide, by decide⟩ : rg 61 61 (61 : Int32)) h_43 (by decide) (by decide)
        refine lv_iconst (v := 1) hx hb dX6_isSign_36 (by decide) ?_
        refine lv_goto (tgt := 41) hx hb dX6_isSign_37 (by decide) ?_
        exact oE_i hx hb hr (by decide) hlocks hP hD hS () [] rfl (by decide) (Or.inl ⟨rfl, (rgw (lo := 40) (hi := 62) h_45 (by decide) (by decide))⟩) (Nat.le_of_ble_eq_true rfl) (Nat.le_of_ble_eq_true rfl) dX6_isSign_41
      · skip
        refine lv_iload_n hx hb dX6_isSign_18 rfl (lv_at hl 0 rfl) ?_
        refine lv_bipush (v := 62) hx hb dX6_isSign_19 (by decide) ?_
        refine lv_icmp_eq (tgt := 36) hx hb dX6_isSign_21 (by decide) (fun c_46 => ?_) (fun c_46 => ?_)
        · skip
          have o_47 : rl 0 a1 62 := rl_eq c_46
          have h_48 : rg (-2147483648) 62 a1 := rl_x o_47 (rga a1) (⟨by decide, by decide⟩ : rg 62 62 (62 : Int32)) (by decide) (by decide)
          have o_49 : rl 0 62 a1 := rl_eq c_46.symm
          have h_50 : rg 62 62 a1 := rl_y o_49 (⟨by decide, by decide⟩ : rg 62 62 (62 : Int32)) h_48 (by decide) (by decide)
          refine lv_iconst (v := 1) hx hb dX6_isSign_36 (by decide) ?_
          refine lv_goto (tgt := 41) hx hb dX6_isSign_37 (by decide) ?_
          exact oE_i hx hb hr (by decide) hlocks hP hD hS () [] rfl (by decide) (Or.inl ⟨rfl, (rgw (lo := 40) (hi := 62) h_50 (by decide) (by decide))⟩) (Nat.le_of_ble_eq_true rfl) (Nat.le_of_ble_eq_true rfl) dX6_isSign_41
        · skip
          refine lv_iload_n hx hb dX6_isSign_24 rfl (lv_at hl 0 rfl) ?_
          refine lv_bipush (v := 40) hx hb dX6_isSign_25 (by decide) ?_
          refine lv_icmp_eq (tgt := 36) hx hb dX6_isSign_27 (by decide) (fun c_51 => ?_) (fun c_51 => ?_)
          · skip
            have o_52 : rl 0 a1 40 := rl_eq c_51
            have h_53 : rg (-2147483648) 40 a1 := rl_x o_52 (rga a1) (⟨by decide, by decide⟩ : rg 40 40 (40 : Int32)) (by decide) (by decide)
            have o_54 : rl 0 40 a1 := rl_eq c_51.symm
            have h_55 : rg 40 40 a1 := rl_y o_54 (⟨by decide, by decide⟩ : rg 40 40 (40 : Int32)) h_53 (by decide) (by decide)
            refine lv_iconst (v := 1) hx hb dX6_isSign_36 (by decide) ?_
            refine lv_goto (tgt := 41) hx hb dX6_isSign_37 (by decide) ?_
            exact oE_i hx hb hr (by decide) hlocks hP hD hS () [] rfl (by decide) (Or.inl ⟨rfl, (rgw (lo := 40) (hi := 62) h_55 (by decide) (by decide))⟩) (Nat.le_of_ble_eq_true rfl) (Nat.le_of_ble_eq_true rfl) dX6_isSign_41
          · skip
            refine lv_iload_n hx hb dX6_isSign_30 rfl (lv_at hl 0 rfl) ?_
            refine lv_bipush (v := 41) hx hb dX6_isSign_31 (by decide) ?_
            refine lv_icmp_ne (tgt := 40) hx hb dX6_isSign_33 (by decide) (fun c_56 => ?_) (fun c_56 => ?_)
            · skip
              refine lv_iconst (v := 0) hx hb dX6_isSign_40 (by decide) ?_
              exact oE_i hx hb hr (by decide) hlocks hP hD hS () [] rfl (by decide) (Or.inr (rfl)) (Nat.le_of_ble_eq_true rfl) (Nat.le_of_ble_eq_true rfl) dX6_isSign_41
            · skip
              have o_57 : rl 0 a1 41 := rl_eq c_56
              have h_58 : rg (-2147483648) 41 a1 := rl_x o_57 (rga a1) (⟨by decide, by decide⟩ : rg 41 41 (41 : Int32)) (by decide) (by decide)
              have o_59 : rl 0 41 a1 := rl_eq c_56.symm
              have h_60 : rg 41 41 a1 := rl_y o_59 (⟨by decide, by decide⟩ : rg 41 41 (41 : Int32)) h_58 (by decide) (by decide)
              refine lv_iconst (v := 1) hx hb dX6_isSign_36 (by decide) ?_
              refine lv_goto (tgt := 41) hx hb dX6_isSign_37 (by decide) ?_
              exact oE_i hx hb hr (by decide) hlocks hP hD hS () [] rfl (by decide) (Or.inl ⟨rfl, (rgw (lo := 40) (hi := 62) h_60 (by decide) (by decide))⟩) (Nat.le_of_ble_eq_true rfl) (Nat.le_of_ble_eq_true rfl) dX6_isSign_41
theorem dX6_advance_0 : decode cX6_advance 0 = .ok (.aload_n 0, 1) := by decide +kernel
theorem dX6_advance_1 : decode cX6_advance 1 = .ok (.invokevirtual 34, 3) := by decide +kernel
theorem dX6_advance_4 : decode cX6_advance 4 = .ok (.ifCond .eq 4, 3) := by decide +kernel
theorem dX6_advance_7 : decode cX6_advance 7 = .ok (.return_, 1) := by decide +kernel
set_option maxRecDepth 20000 in
theorem ggX6_advance_X6_isBroken : GoodIn wsX6_advance wsX6_isBroken := goodIn_r _ [16, 17, 27, 28, 29, 30, 31, 32, 33, 34, 35, 36] rfl (by decide +kernel)
set_option maxRecDepth 20000 in
theorem gX6_advance_X6_isBroken : GoodIn wsX6_advance (wsV RX6 34 RX6 yX6_isBroken wsX6_isBroken) := goodIn_app (goodIn_of _ (by decide +kernel)) ggX6_advance_X6_isBroken
set_option maxHeartbeats 4000000 in
set_option maxRecDepth 100000 in
theorem s_X6_advance_br (l : Launch) (D : va_G) (ca : Nat → ClassId) (sz : Nat) (h0 : Nat) (h0_bytes : Nat) (h0_length : Int32) (h0_faultKind : Int32) (h0_faultAt : Int32) (h0_letters : Int64) (h0_mostBytes : Int32) (h0_behind : Int32) (h0_at : Int32) (h0_kind : Int32) (h0_number : Int32) (i_h0_length : rg 0 940 h0_length) (i_h0_faultKind : rg 1 4 h0_faultKind) (i_h0_behind : rg 0 940 h0_behind) : oMet l yX6_advance wsX6_advance ({ frames := 1, cells := 0, slots := 0, locals := 20 } : Room) [.ref h0] D ca sz [(h0, .inr (6, [.ref h0_bytes, .int h0_length, .int h0_faultKind, .int h0_faultAt, .long h0_letters, .int h0_mostBytes, .int h0_behind, .int h0_at, .int h0_kind, .int h0_number]))] (oQv D (fun (u : Unit) => True) (fun (u : Unit) => [(h0, .inr (6, [.ref h0_bytes, .int h0_length, .int h0_faultKind, .int h0_faultAt, .long h0_letters, .int h0_mostBytes, .int h0_behind, .int h0_at, .int h0_kind, .int h0_number]))])) 0 0 := by
  refine oM (cc := cX6_advance) (maxL := 2) (ret := none) (by decide) rfl (Nat.le_of_ble_eq_true rfl) [(0, .ref h0)] rfl ?_
  intro p e s m below meth c A H locs ls hx hb hr hml hts hown hlocks hin hK hP hD hA hS hl
  have hown : s.vm.findClass RX6 = some m.cls := hown
  refine lv_aload_n hx hb dX6_advance_0 rfl (lv_at hl 0 rfl) ?_
  refine oC_i (Wc := [(h0, .inr (6, [.ref h0_bytes, .int h0_length, .int h0_faultKind, .int h0_faultAt, .long h0_letters, .int h0_mostBytes, .int h0_behind, .int h0_at, .int h0_kind, .int h0_number]))]) (Wr := []) (va_runV (As := []) (rest := []) ⟨hx, hb, hml, hown, hts⟩ (s_X6_isBroken l D ca H.size h0 h0_bytes h0_length h0_faultKind h0_faultAt h0_letters h0_mostBytes h0_behind h0_at h0_kind h0_number i_h0_length (rgw (lo := 0) (hi := 4) i_h0_faultKind (by decide) (by decide)) i_h0_behind) (cwV 0 hts gX6_advance_X6_isBroken rfl rfl rfl (by decide +kernel) ⟨Nat.le_of_ble_eq_true rfl, Nat.le_of_ble_eq_true rfl⟩) (oPV (C := RX6) hK hP hD [0] rfl (by decide) 0 rfl (ci := 6) rfl rfl) rfl rfl hl.1 rfl (lv_room (Nat.le_of_ble_eq_true rfl)) dX6_advance_1 ⟨Nat.le_of_ble_eq_true rfl, Nat.le_of_ble_eq_true rfl⟩) hP hD hS hA [0] [] rfl rfl (by decide) (by decide) (fun r_7 u H locs w_8 hP hD hS => ?_)
  obtain ⟨⟩ := u
  have hP : va_P D vwCl [(h0, .inr (6, [.ref h0_bytes, .int h0_length, .int h0_faultKind, .int h0_faultAt, .long h0_letters, .int h0_mostBytes, .int h0_behind, .int h0_at, .int h0_kind, .int h0_number]))] H := hP
  have hD : va_D A [(h0, .inr (6, [.ref h0_bytes, .int h0_length, .int h0_faultKind, .int h0_faultAt, .long h0_letters, .int h0_mostBytes, .int h0_behind, .int h0_at, .int h0_kind, .int h0_number]))] := hD
  try dsimp only at w_8
  rcases w_8 with ⟨h_9, h_10⟩ | ⟨h_11, h_12⟩
  · skip
    subst h_9
    exact (rg_no h_10 i_h0_faultKind (by decide)).elim
  · skip
    subst h_11
    refine lv_if_eq (tgt := 8) hx hb dX6_advance_4 (by decide) (fun c => absurd c (by decide)) (fun _ => ?_)
    exact oE_v hx hb hr hlocks hP hD hS () [0] rfl (by decide) trivial (Nat.le_of_ble_eq_true rfl) (Nat.le_of_ble_eq_true rfl) dX6_advance_7
theorem dX6_advance_8 : decode cX6_advance 8 = .ok (.aload_n 0, 1) := by decide +kernel
theorem dX6_advance_9 : decode cX6_advance 9 = .ok (.getfield 15, 3) := by decide +kernel
theorem dX6_advance_12 : decode cX6_advance 12 = .ok (.aload_n 0, 1) := by decide +kernel
theorem dX6_advance_13 : decode cX6_advance 13 = .ok (.getfield 19, 3) := by decide +kernel
theorem dX6_advance_16 : decode cX6_advance 16 = .ok (.invokestatic 38, 3) := by decide +kernel
theorem dX6_advance_19 : decode cX6_advance 19 = .ok (.istore_n 1, 1) := by decide +kernel
theorem dX6_advance_20 : decode cX6_advance 20 = .ok (.aload_n 0, 1) := by decide +kernel
theorem dX6_advance_21 : decode cX6_advance 21 = .ok (.getfield 22, 3) := by decide +kernel
theorem dX6_advance_24 : decode cX6_advance 24 = .ok (.iload_n 1, 1) := by decide +kernel
theorem dX6_advance_25 : decode cX6_advance 25 = .ok (.if_icmp .ge 44, 3) := by decide +kernel
theorem dX6_advance_28 : decode cX6_advance 28 = .ok (.aload_n 0, 1) := by decide +kernel
theorem dX6_advance_29 : decode cX6_advance 29 = .ok (.getfield 9, 3) := by decide +kernel
theorem dX6_advance_32 : decode cX6_advance 32 = .ok (.aload_n 0, 1) := by decide +kernel
theorem dX6_advance_33 : decode cX6_advance 33 = .ok (.getfield 22, 3) := by decide +kernel
theorem dX6_advance_36 : decode cX6_advance 36 = .ok (.iaload, 1) := by decide +kernel
theorem dX6_advance_37 : decode cX6_advance 37 = .ok (.bipush 32, 2) := by decide +kernel
theorem dX6_advance_39 : decode cX6_advance 39 = .ok (.if_icmp .eq 17, 3) := by decide +kernel
theorem dX6_advance_42 : decode cX6_advance 42 = .ok (.aload_n 0, 1) := by decide +kernel
theorem dX6_advance_43 : decode cX6_advance 43 = .ok (.getfield 9, 3) := by decide +kernel
theorem dX6_advance_46 : decode cX6_advance 46 = .ok (.aload_n 0, 1) := by decide +kernel
theorem dX6_advance_47 : decode cX6_advance 47 = .ok (.getfield 22, 3) := by decide +kernel
theorem dX6_advance_50 : decode cX6_advance 50 = .ok (.iaload, 1) := by decide +kernel
theorem dX6_advance_51 : decode cX6_advance 51 = .ok (.bipush 10, 2) := by decide +kernel
theorem dX6_advance_53 : decode cX6_advance 53 = .ok (.if_icmp .ne 16, 3) := by decide +kernel
theorem dX6_advance_56 : decode cX6_advance 56 = .ok (.aload_n 0, 1) := by decide +kernel
theorem dX6_advance_57 : decode cX6_advance 57 = .ok (.dup, 1) := by decide +kernel
theorem dX6_advance_58 : decode cX6_advance 58 = .ok (.getfield 22, 3) := by decide +kernel
theorem dX6_advance_61 : decode cX6_advance 61 = .ok (.iconst 1, 1) := by decide +kernel
theorem dX6_advance_62 : decode cX6_advance 62 = .ok (.iadd, 1) := by decide +kernel
theorem dX6_advance_63 : decode cX6_advance 63 = .ok (.putfield 22, 3) := by decide +kernel
theorem dX6_advance_66 : decode cX6_advance 66 = .ok (.goto (-46), 3) := by decide +kernel
theorem dX6_advance_69 : decode cX6_advance 69 = .ok (.aload_n 0, 1) := by decide +kernel
theorem dX6_advance_70 : decode cX6_advance 70 = .ok (.lconst 0, 1) := by decide +kernel
theorem dX6_advance_71 : decode cX6_advance 71 = .ok (.putfield 44, 3) := by decide +kernel
theorem dX6_advance_74 : decode cX6_advance 74 = .ok (.aload_n 0, 1) := by decide +kernel
theorem dX6_advance_75 : decode cX6_advance 75 = .ok (.getfield 22, 3) := by decide +kernel
theorem dX6_advance_78 : decode cX6_advance 78 = .ok (.iload_n 1, 1) := by decide +kernel
theorem dX6_advance_79 : decode cX6_advance 79 = .ok (.if_icmp .lt 29, 3) := by decide +kernel
theorem dX6_advance_82 : decode cX6_advance 82 = .ok (.aload_n 0, 1) := by decide +kernel
theorem dX6_advance_83 : decode cX6_advance 83 = .ok (.iload_n 1, 1) := by decide +kernel
theorem dX6_advance_84 : decode cX6_advance 84 = .ok (.putfield 48, 3) := by decide +kernel
theorem dX6_advance_87 : decode cX6_advance 87 = .ok (.aload_n 0, 1) := by decide +kernel
theorem dX6_advance_88 : decode cX6_advance 88 = .ok (.aload_n 0, 1) := by decide +kernel
theorem dX6_advance_89 : decode cX6_advance 89 = .ok (.getfield 15, 3) := by decide +kernel
theorem dX6_advance_92 : decode cX6_advance 92 = .ok (.aload_n 0, 1) := by decide +kernel
theorem dX6_advance_93 : decode cX6_advance 93 = .ok (.getfield 19, 3) := by decide +kernel
theorem dX6_advance_96 : decode cX6_advance 96 = .ok (.if_icmp .le 7, 3) := by decide +kernel
theorem dX6_advance_99 : decode cX6_advance 99 = .ok (.iconst 0, 1) := by decide +kernel
theorem dX6_advance_100 : decode cX6_advance 100 = .ok (.goto 4, 3) := by decide +kernel
theorem dX6_advance_103 : decode cX6_advance 103 = .ok (.iconst 1, 1) := by decide +kernel
theorem dX6_advance_104 : decode cX6_advance 104 = .ok (.putfield 51, 3) := by decide +kernel
theorem dX6_advance_107 : decode cX6_advance 107 = .ok (.return_, 1) := by decide +kernel
theorem dX6_advance_108 : decode cX6_advance 108 = .ok (.aload_n 0, 1) := by decide +kernel
theorem dX6_advance_109 : decode cX6_advance 109 = .ok (.aload_n 0, 1) := by decide +kernel
theorem dX6_advance_110 : decode cX6_advance 110 = .ok (.getfield 22, 3) := by decide +kernel
theorem dX6_advance_113 : decode cX6_advance 113 = .ok (.putfield 48, 3) := by decide +kernel
theorem dX6_advance_116 : decode cX6_advance 116 = .ok (.aload_n 0, 1) := by decide +kernel
theorem dX6_advance_117 : decode cX6_advance 117 = .ok (.invokevirtual 54, 3) := by decide +kernel
theorem dX6_advance_120 : decode cX6_advance 120 = .ok (.aload_n 0, 1) := by decide +kernel
theorem dX6_advance_121 : decode cX6_advance 121 = .ok (.getfield 22, 3) := by decide +kernel
theorem dX6_advance_124 : decode cX6_advance 124 = .ok (.aload_n 0, 1) := by decide +kernel
theorem dX6_advance_125 : decode cX6_advance 125 = .ok (.getfield 48, 3) := by decide +kernel
theorem dX6_advance_128 : decode cX6_advance 128 = .ok (.if_icmp .ne 45, 3) := by decide +kernel
theorem dX6_advance_131 : decode cX6_advance 131 = .ok (.aload_n 0, 1) := by decide +kernel
theorem dX6_advance_132 : decode cX6_advance 132 = .ok (.aload_n 0, 1) := by decide +kernel
theorem dX6_advance_133 : decode cX6_advance 133 = .ok (.getfield 9, 3) := by decide +kernel
theorem dX6_advance_136 : decode cX6_advance 136 = .ok (.aload_n 0, 1) := by decide +kernel
theorem dX6_advance_137 : decode cX6_advance 137 = .ok (.getfield 48, 3) := by decide +kernel
theorem dX6_advance_140 : decode cX6_advance 140 = .ok (.iaload, 1) := by decide +kernel
theorem dX6_advance_141 : decode cX6_advance 141 = .ok (.invokestatic 57, 3) := by decide +kernel
theorem dX6_advance_144 : decode cX6_advance 144 = .ok (.ifCond .eq 15, 3) := by decide +kernel
theorem dX6_advance_147 : decode cX6_advance 147 = .ok (.aload_n 0, 1) := by decide +kernel
theorem dX6_advance_148 : decode cX6_advance 148 = .ok (.getfield 9, 3) := by decide +kernel
theorem dX6_advance_151 : decode cX6_advance 151 = .ok (.aload_n 0, 1) := by decide +kernel
theorem dX6_advance_152 : decode cX6_advance 152 = .ok (.getfield 48, 3) := by decide +kernel
theorem dX6_advance_155 : decode cX6_advance 155 = .ok (.iaload, 1) := by decide +kernel
theorem dX6_advance_156 : decode cX6_advance 156 = .ok (.goto 4, 3) := by decide +kernel
theorem dX6_advance_159 : decode cX6_advance 159 = .ok (.iconst 0, 1) := by decide +kernel
theorem dX6_advance_160 : decode cX6_advance 160 = .ok (.putfield 51, 3) := by decide +kernel
theorem dX6_advance_163 : decode cX6_advance 163 = .ok (.aload_n 0, 1) := by decide +kernel
theorem dX6_advance_164 : decode cX6_advance 164 = .ok (.dup, 1) := by decide +kernel
theorem dX6_advance_165 : decode cX6_advance 165 = .ok (.getfield 22, 3) := by decide +kernel
theorem dX6_advance_168 : decode cX6_advance 168 = .ok (.iconst 1, 1) := by decide +kernel
theorem dX6_advance_169 : decode cX6_advance 169 = .ok (.iadd, 1) := by decide +kernel
theorem dX6_advance_170 : decode cX6_advance 170 = .ok (.putfield 22, 3) := by decide +kernel
theorem dX6_advance_173 : decode cX6_advance 173 = .ok (.return_, 1) := by decide +kernel
set_option maxRecDepth 20000 in
theorem ggX6_advance_X6_readRun : GoodIn wsX6_advance wsX6_readRun := goodIn_r _ [21, 22, 7, 1, 8, 9, 23, 11, 27, 28, 29, 30, 31, 32, 33, 34, 35, 36] rfl (by decide +kernel)
set_option maxRecDepth 20000 in
theorem gX6_advance_X6_readRun : GoodIn wsX6_advance (wsV RX6 54 RX6 yX6_readRun wsX6_readRun) := goodIn_app (goodIn_of _ (by decide +kernel)) ggX6_advance_X6_readRun
set_option maxRecDepth 20000 in
theorem ggX6_advance_X6_isSign : GoodIn wsX6_advance wsX6_isSign := goodIn_r _ [26] rfl (by decide +kernel)
set_option maxRecDepth 20000 in
theorem gX6_advance_X6_isSign : GoodIn wsX6_advance (va_wsS RX6 57 yX6_isSign wsX6_isSign) := goodIn_app (goodIn_of _ (by decide +kernel)) ggX6_advance_X6_isSign
set_option maxHeartbeats 4000000 in
set_option maxRecDepth 100000 in
theorem s_X6_advance (l : Launch) (D : va_G) (ca : Nat → ClassId) (sz : Nat) (h0 : Nat) (h0_bytes : Nat) (h0_length : Int32) (h0_faultKind : Int32) (h0_faultAt : Int32) (h0_letters : Int64) (h0_mostBytes : Int32) (h0_behind : Int32) (h0_at : Int32) (h0_kind : Int32) (h0_number : Int32) (F_h0_bytes : Nat → Int32) (i_h0_length : rg 0 940 h0_length) (i_h0_faultKind : rg 0 4 h0_faultKind) (i_h0_behind : rg 0 940 h0_behind) (s_h0_bytes_0 : sg 0 940 0 255 F_h0_bytes) : oMet l yX6_advance wsX6_advance ({ frames := 1, cells := 0, slots := 0, locals := 23 } : Room) [.ref h0] D ca sz [(h0, .inr (6, [.ref h0_bytes, .int h0_length, .int h0_faultKind, .int h0_faultAt, .long h0_letters, .int h0_mostBytes, .int h0_behind, .int h0_at, .int h0_kind, .int h0_number])), (aI ca h0_bytes 940 F_h0_bytes)] (oQv D (fun (u : Int64 × Int32 × Int32 × Int32 × Int32) => (rg 0 940 u.2.1) ∧ (rl 0 h0_behind u.2.1)) (fun (u : Int64 × Int32 × Int32 × Int32 × Int32) => [(h0, .inr (6, [.ref h0_bytes, .int h0_length, .int h0_faultKind, .int h0_faultAt, .long u.1, .int h0_mostBytes, .int u.2.1, .int u.2.2.1, .int u.2.2.2.1, .int u.2.2.2.2])), (aI ca h0_bytes 940 F_h0_bytes)])) 0 0 := by
  refine oM (cc := cX6_advance) (maxL := 2) (ret := none) (by decide) rfl (Nat.le_of_ble_eq_true rfl) [(0, .ref h0)] rfl ?_
  intro p e s m below meth c A H locs ls hx hb hr hml hts hown hlocks hin hK hP hD hA hS hl
  have hown : s.vm.findClass RX6 = some m.cls := hown
  have k1 := hts (.fieldLink RX6 51 "LidCourt$Reader" "kind" "I") (by decide +kernel)
  have k2 : ∀ w ∈ wsX60, w ∈ wsX6_advance := fun _ h => List.mem_cons_of_mem _ (List.mem_append_right _ h)
  have k3 := hts (.fieldLink RX6 22 "LidCourt$Reader" "behind" "I") (by decide +kernel)
  have k4 := hts (.fieldLink RX6 44 "LidCourt$Reader" "letters" "J") (by decide +kernel)
  have k5 := hts (.fieldLink RX6 48 "LidCourt$Reader" "at" "I") (by decide +kernel)
  have k6 := hts (.fieldLink RX6 9 "LidCourt$Reader" "bytes" "[I") (by decide +kernel)
  have k7 := hts (.fieldLink RX6 15 "LidCourt$Reader" "length" "I") (by decide +kernel)
  have k8 := hts (.fieldLink RX6 19 "LidCourt$Reader" "mostBytes" "I") (by decide +kernel)
  have k9 := hts (.methodLink RX6 38 Lib.Math.min.name) (by decide +kernel)
  have k10 := hts (.static Lib.Math.min.name) (by decide +kernel)
  have k11 := hts (.initialized "java/lang/Math") (by decide +kernel)
  have k12 := hts (.code Lib.Math.min.name Lib.Math.min.code 2 (some .int)) (by decide +kernel)
  have J160_104 : ∀ (y160_0 : Int32) (y160_1 : Int64) (y160_2 : Int32) (y160_3 : Int32) (y160_4 : Int32) (y160_5 : Int32), rg 0 62 y160_0 → rg 0 939 y160_2 → rl 0 h0_behind y160_2 → rg 0 939 y160_3 → rl 0 h0_behind y160_3 → rg 0 3 y160_4 → rg 0 0 h0_faultKind → ∀ (H : Heap) (locs : List Loc) (ls : Array Slot), va_P D vwCl [(h0, .inr (6, [.ref h0_bytes, .int h0_length, .int h0_faultKind, .int h0_faultAt, .long y160_1, .int h0_mostBytes, .int y160_2, .int y160_3, .int y160_4, .int y160_5])), (aI ca h0_bytes 940 F_h0_bytes)] H → va_D A [(h0, .inr (6, [.ref h0_bytes, .int h0_length, .int h0_faultKind, .int h0_faultAt, .long y160_1, .int h0_mostBytes, .int y160_2, .int y160_3, .int y160_4, .int y160_5])), (aI ca h0_bytes 940 F_h0_bytes)] → va_S A s.heap H locs → lv_has ls 2 [(0, .ref h0)] → W p l e ({ frames := 1, cells := 0, slots := 0, locals := 23 } : Room) s m ([.ref h0] : List Value).toArray below meth c H locs 0 0 (MQ below ((oQv D (fun (u : Int64 × Int32 × Int32 × Int32 × Int32) => (rg 0 940 u.2.1) ∧ (rl 0 h0_behind u.2.1)) (fun (u : Int64 × Int32 × Int32 × Int32 × Int32) => [(h0, .inr (6, [.ref h0_bytes, .int h0_length, .int h0_faultKind, .int h0_faultAt, .long u.1, .int h0_mostBytes, .int u.2.1, .int u.2.2.1, .int u.2.2.2.1, .int u.2.2.2.2])), (aI ca h0_bytes 940 F_h0_bytes)])) A) ([.ref h0] : List Value).toArray s 0 0 A) (F0 m 160 ls [.int y160_0, .ref h0]) := by
    intro y160_0 y160_1 y160_2 y160_3 y160_4 y160_5 hy160_0 hy160_2 py160_2_h0_behind hy160_3 py160_3_h0_behind hy160_4 t160_h0_faultKind H locs ls hP hD hS hl
    refine va_put (D := D) (ci := 6) (v := .int y160_0) (ty := .int) (C := RX6) (T := TX6) (N := 10) hx hb hts k2 tyX6 tyX6_ok nmX6 hown hK.1 hP hD hS 0 rfl rfl 8 (by decide) k1 (fun _ h9 => h9) rfl (by decide +kernel) rfl rfl (Nat.le_of_ble_eq_true rfl) dX6_advance_160 (fun H locs hP hD hS => ?_)
    have hP : va_P D vwCl [(h0, .inr (6, [.ref h0_bytes, .int h0_length, .int h0_faultKind, .int h0_faultAt, .long y160_1, .int h0_mostBytes, .int y160_2, .int y160_3, .int y160_0, .int y160_5])), (aI ca h0_bytes 940 F_h0_bytes)] H := hP
    have hD : va_D A [(h0, .inr (6, [.ref h0_bytes, .int h0_length, .int h0_faultKind, .int h0_faultAt, .long y160_1, .int h0_mostBytes, .int y160_2, .int y160_3, .int y160_0, .int y160_5])), (aI ca h0_bytes 940 F_h0_bytes)] := hD
    refine lv_aload_n hx hb dX6_advance_163 rfl (lv_at hl 0 rfl) ?_
    refine lv_dup hx hb dX6_advance_164 rfl ?_
    refine va_get (D := D) (ci := 6) (v := .int y160_2) (C := RX6) (T := TX6) (N := 10) hx hb hts k2 hown hK.1 hP 0 rfl rfl 6 (by decide) k3 (fun _ h9 => h9) rfl dX6_advance_165 ?_
    refine lv_iconst (v := 1) hx hb dX6_advance_168 (by decide) ?_
    refine lv_iadd hx hb dX6_advance_169 ?_
    refine lv_topi (fun x_105 ex_105 => ?_)
    have h_106 : rg 1 940 x_105 := by rw [ex_105]; exact rg_add hy160_2 (⟨by decide, by decide⟩ : rg 1 1 (1 : Int32)) (by decide) (by decide) (by decide) (by decide)
    have l_107 : lq x_105.toInt (y160_2.toInt + 1) := lqm (by rw [ex_105]; have q := tadd hy160_2 (⟨by decide, by decide⟩ : rg 1 1 (1 : Int32)) (by decide) (by decide); have r1 := lqe (lqm (by decide) : lq (1 : Int32).toInt 1); omega)
    refine va_put (D := D) (ci := 6) (v := .int x_105) (ty := .int) (C := RX6) (T := TX6) (N := 10) hx hb hts k2 tyX6 tyX6_ok nmX6 hown hK.1 hP hD hS 0 rfl rfl 6 (by decide) k3 (fun _ h9 => h9) rfl (by decide +kernel) rfl rfl (Nat.le_of_ble_eq_true rfl) dX6_advance_170 (fun H locs hP hD hS => ?_)
    have hP : va_P D vwCl [(h0, .inr (6, [.ref h0_bytes, .int h0_length, .int h0_faultKind, .int h0_faultAt, .long y160_1, .int h0_mostBytes, .int x_105, .int y160_3, .int y160_0, .int y160_5])), (aI ca h0_bytes 940 F_h0_bytes)] H := hP
    have hD : va_D A [(h0, .inr (6, [.ref h0_bytes, .int h0_length, .int h0_faultKind, .int h0_faultAt, .long y160_1, .int h0_mostBytes, .int x_105, .int y160_3, .int y160_0, .int y160_5])), (aI ca h0_bytes 940 F_h0_bytes)] := hD
    exact oE_v hx hb hr hlocks hP hD hS (y160_1, x_105, y160_3, y160_0, y160_5) [0, 1] rfl (by decide) ⟨(rgw (lo := 0) (hi := 940) h_106 (by decide) (by decide)), (show rl 0 h0_behind x_105 from rlm (by have q0 := lqe l_107; have q1 := rle py160_2_h0_behind; omega))⟩ (Nat.le_of_ble_eq_true rfl) (Nat.le_of_ble_eq_true rfl) dX6_advance_173
  have J104_108 : ∀ (y104_0 : Int32) (y104_1 : Int32) (y104_2 : Int32), rg 0 1 y104_0 → rg 0 940 y104_1 → rl 0 h0_behind y104_1 → rg (-2147483648) 940 y104_2 → rl 0 y104_2 h0_length → rl 0 y104_2 h0_mostBytes → rg 0 0 h0_faultKind → ∀ (H : Heap) (locs : List Loc) (ls : Array Slot), va_P D vwCl [(h0, .inr (6, [.ref h0_bytes, .int h0_length, .int h0_faultKind, .int h0_faultAt, .long 0, .int h0_mostBytes, .int y104_1, .int y104_2, .int h0_kind, .int h0_number])), (aI ca h0_bytes 940 F_h0_bytes)] H → va_D A [(h0, .inr (6, [.ref h0_bytes, .int h0_length, .int h0_faultKind, .int h0_faultAt, .long 0, .int h0_mostBytes, .int y104_1, .int y104_2, .int h0_kind, .int h0_number])), (aI ca h0_bytes 940 F_h0_bytes)] → va_S A s.heap H locs → lv_has ls 2 [] → W p l e ({ frames := 1, cells := 0, slots := 0, locals := 23 } : Room) s m ([.ref h0] : List Value).toArray below meth c H locs 0 0 (MQ below ((oQv D (fun (u : Int64 × Int32 × Int32 × Int32 × Int32) => (rg 0 940 u.2.1) ∧ (rl 0 h0_behind u.2.1)) (fun (u : Int64 × Int32 × Int32 × Int32 × Int32) => [(h0, .inr (6, [.ref h0_bytes, .int h0_length, .int h0_faultKind, .int h0_faultAt, .long u.1, .int h0_mostBytes, .int u.2.1, .int u.2.2.1, .int u.2.2.2.1, .int u.2.2.2.2])), (aI ca h0_bytes 940 F_h0_bytes)])) A) ([.ref h0] : List Value).toArray s 0 0 A) (F0 m 104 ls [.int y104_0, .ref h0]) := by
    intro y104_0 y104_1 y104_2 hy104_0 hy104_1 py104_1_h0_behind hy104_2 qy104_2_h0_length qy104_2_h0_mostBytes t104_h0_faultKind H locs ls hP hD hS hl
    refine va_put (D := D) (ci := 6) (v := .int y104_0) (ty := .int) (C := RX6) (T := TX6) (N := 10) hx hb hts k2 tyX6 tyX6_ok nmX6 hown hK.1 hP hD hS 0 rfl rfl 8 (by decide) k1 (fun _ h9 => h9) rfl (by decide +kernel) rfl rfl (Nat.le_of_ble_eq_true rfl) dX6_advance_104 (fun H locs hP hD hS => ?_)
    have hP : va_P D vwCl [(h0, .inr (6, [.ref h0_bytes, .int h0_length, .int h0_faultKind, .int h0_faultAt, .long 0, .int h0_mostBytes, .int y104_1, .int y104_2, .int y104_0, .int h0_number])), (aI ca h0_bytes 940 F_h0_bytes)] H := hP
    have hD : va_D A [(h0, .inr (6, [.ref h0_bytes, .int h0_length, .int h0_faultKind, .int h0_faultAt, .long 0, .int h0_mostBytes, .int y104_1, .int y104_2, .int y104_0, .int h0_number])), (aI ca h0_bytes 940 F_h0_bytes)] := hD
    exact oE_v hx hb hr hlocks hP hD hS (0, y104_1, y104_2, y104_0, h0_number) [0, 1] rfl (by decide) ⟨hy104_1, (show rl 0 h0_behind y104_1 from rlm (by have q0 := rle py104_1_h0_behind; omega))⟩ (Nat.le_of_ble_eq_true rfl) (Nat.le_of_ble_eq_true rfl) dX6_advance_107
  have J69_109 : ∀ (y69_0 : Int32) (y69_1 : Int32), rg (-2147483648) 940 y69_0 → rl 0 y69_0 h0_length → rl 0 y69_0 h0_mostBytes → rg 0 940 y69_1 → rl 0 h0_behind y69_1 → rg 0 0 h0_faultKind → ∀ (H : Heap) (locs : List Loc) (ls : Array Slot), va_P D vwCl [(h0, .inr (6, [.ref h0_bytes, .int h0_length, .int h0_faultKind, .int h0_faultAt, .long h0_letters, .int h0_mostBytes, .int y69_1, .int h0_at, .int h0_kind, .int h0_number])), (aI ca h0_bytes 940 F_h0_bytes)] H → va_D A [(h0, .inr (6, [.ref h0_bytes, .int h0_length, .int h0_faultKind, .int h0_faultAt, .long h0_letters, .int h0_mostBytes, .int y69_1, .int h0_at, .int h0_kind, .int h0_number])), (aI ca h0_bytes 940 F_h0_bytes)] → va_S A s.heap H locs → lv_has ls 2 [(0, .ref h0), (1, .int y69_0)] → W p l e ({ frames := 1, cells := 0, slots := 0, locals := 23 } : Room) s m ([.ref h0] : List Value).toArray below meth c H locs 0 0 (MQ below ((oQv D (fun (u : Int64 × Int32 × Int32 × Int32 × Int32) => (rg 0 940 u.2.1) ∧ (rl 0 h0_behind u.2.1)) (fun (u : Int64 × Int32 × Int32 × Int32 × Int32) => [(h0, .inr (6, [.ref h0_bytes, .int h0_length, .int h0_faultKind, .int h0_faultAt, .long u.1, .int h0_mostBytes, .int u.2.1, .int u.2.2.1, .int u.2.2.2.1, .int u.2.2.2.2])), (aI ca h0_bytes 940 F_h0_bytes)])) A) ([.ref h0] : List Value).toArray s 0 0 A) (F0 m 69 ls []) := by
    intro y69_0 y69_1 hy69_0 qy69_0_h0_length qy69_0_h0_mostBytes hy69_1 py69_1_h0_behind t69_h0_faultKind H locs ls hP hD hS hl
    refine lv_aload_n hx hb dX6_advance_69 rfl (lv_at hl 0 rfl) ?_
    refine lv_lconst (v := 0) hx hb dX6_advance_70 (by decide) ?_
    refine va_put (D := D) (ci := 6) (v := .long 0) (ty := .long) (C := RX6) (T := TX6) (N := 10) hx hb hts k2 tyX6 tyX6_ok nmX6 hown hK.1 hP hD hS 0 rfl rfl 4 (by decide) k4 (fun _ h9 => h9) rfl (by decide +kernel) rfl rfl (Nat.le_of_ble_eq_true rfl) dX6_advance_71 (fun H locs hP hD hS => ?_)
    have hP : va_P D vwCl [(h0, .inr (6, [.ref h0_bytes, .int h0_length, .int h0_faultKind, .int h0_faultAt, .long 0, .int h0_mostBytes, .int y69_1, .int h0_at, .int h0_kind, .int h0_number])), (aI ca h0_bytes 940 F_h0_bytes)] H := hP
    have hD : va_D A [(h0, .inr (6, [.ref h0_bytes, .int h0_length, .int h0_faultKind, .int h0_faultAt, .long 0, .int h0_mostBytes, .int y69_1, .int h0_at, .int h0_kind, .int h0_number])), (aI ca h0_bytes 940 F_h0_bytes)] := hD
    refine lv_aload_n hx hb dX6_advance_74 rfl (lv_at hl 0 rfl) ?_
    refine va_get (D := D) (ci := 6) (v := .int y69_1) (C := RX6) (T := TX6) (N := 10) hx hb hts k2 hown hK.1 hP 0 rfl rfl 6 (by decide) k3 (fun _ h9 => h9) rfl dX6_advance_75 ?_
    refine lv_iload_n hx hb dX6_advance_78 rfl (lv_at hl 1 rfl) ?_
    refine lv_icmp_lt (tgt := 108) hx hb dX6_advance_79 (by decide) (fun c_110 => ?_) (fun c_110 => ?_)
    · skip
      have o_111 : rl 1 y69_1 y69_0 := rl_lt c_110
      have h_112 : rg 0 939 y69_1 := rl_x o_111 hy69_1 hy69_0 (by decide) (by decide)
      have h_113 : rg 1 940 y69_0 := rl_y o_111 hy69_1 hy69_0 (by decide) (by decide)
      refine lv_aload_n hx hb dX6_advance_108 rfl (lv_at hl 0 rfl) ?_
      refine lv_aload_n hx hb dX6_advance_109 rfl (lv_at hl 0 rfl) ?_
      refine va_get (D := D) (ci := 6) (v := .int y69_1) (C := RX6) (T := TX6) (N := 10) hx hb hts k2 hown hK.1 hP 0 rfl rfl 6 (by decide) k3 (fun _ h9 => h9) rfl dX6_advance_110 ?_
      refine va_put (D := D) (ci := 6) (v := .int y69_1) (ty := .int) (C := RX6) (T := TX6) (N := 10) hx hb hts k2 tyX6 tyX6_ok nmX6 hown hK.1 hP hD hS 0 rfl rfl 7 (by decide) k5 (fun _ h9 => h9) rfl (by decide +kernel) rfl rfl (Nat.le_of_ble_eq_true rfl) dX6_advance_113 (fun H locs hP hD hS => ?_)
      have hP : va_P D vwCl [(h0, .inr (6, [.ref h0_bytes, .int h0_length, .int h0_faultKind, .int h0_faultAt, .long 0, .int h0_mostBytes, .int y69_1, .int y69_1, .int h0_kind, .int h0_number])), (aI ca h0_bytes 940 F_h0_bytes)] H := hP
      have hD : va_D A [(h0, .inr (6, [.ref h0_bytes, .int h0_length, .int h0_faultKind, .int h0_faultAt, .long 0, .int h0_mostBytes, .int y69_1, .int y69_1, .int h0_kind, .int h0_number])), (aI ca h0_bytes 940 F_h0_bytes)] := hD
      refine lv_aload_n hx hb dX6_advance_116 rfl (lv_at hl 0 rfl) ?_
      refine oC_v (Wc := [(h0, .inr (6, [.ref h0_bytes, .int h0_length, .int h0_faultKind, .int h0_faultAt, .long 0, .int h0_mostBytes, .int y69_1, .int y69_1, .int h0_kind, .int h0_number])), (aI ca h0_bytes 940 F_h0_bytes)]) (Wr := []) (va_runV (As := []) (rest := []) ⟨hx, hb, hml, hown, hts⟩ (s_X6_readRun l D ca H.size h0 h0_bytes h0_length h0_faultKind h0_faultAt 0 h0_mostBytes y69_1 y69_1 h0_kind h0_number F_h0_bytes i_h0_length (rgw (lo := 0) (hi := 4) t69_h0_faultKind (by decide) (by decide)) (rgw (lo := 0) (hi := 940) h_112 (by decide) (by decide)) (sg_w (a' := 0) (b' := 940) (lo' := 0) (hi' := 255) s_h0_bytes_0 (by decide) (by decide) (by decide) (by decide))) (cwV 0 hts gX6_advance_X6_readRun rfl rfl rfl (by decide +kernel) ⟨Nat.le_of_ble_eq_true rfl, Nat.le_of_ble_eq_true rfl⟩) (oPV (C := RX6) hK hP hD [0, 1] rfl (by decide) 0 rfl (ci := 6) rfl rfl) rfl rfl hl.1 rfl (lv_room (Nat.le_of_ble_eq_true rfl)) dX6_advance_117 ⟨Nat.le_of_ble_eq_true rfl, Nat.le_of_ble_eq_true rfl⟩) hP hD hS hA [0, 1] [] rfl rfl (by decide) (by decide) (fun u H locs w_115 hP hD hS => ?_)
      obtain ⟨u_116, u_117, u_118, u_119⟩ := u
      have hP : va_P D vwCl [(h0, .inr (6, [.ref h0_bytes, .int h0_length, .int h0_faultKind, .int h0_faultAt, .long u_116, .int h0_mostBytes, .int u_117, .int y69_1, .int u_118, .int u_119])), (aI ca h0_bytes 940 F_h0_bytes)] H := hP
      have hD : va_D A [(h0, .inr (6, [.ref h0_bytes, .int h0_length, .int h0_faultKind, .int h0_faultAt, .long u_116, .int h0_mostBytes, .int u_117, .int y69_1, .int u_118, .int u_119])), (aI ca h0_bytes 940 F_h0_bytes)] := hD
      try dsimp only at w_115
      obtain ⟨h_120, h_121, h_122⟩ := w_115
      refine lv_aload_n hx hb dX6_advance_120 rfl (lv_at hl 0 rfl) ?_
      refine va_get (D := D) (ci := 6) (v := .int u_117) (C := RX6) (T := TX6) (N := 10) hx hb hts k2 hown hK.1 hP 0 rfl rfl 6 (by decide) k3 (fun _ h9 => h9) rfl dX6_advance_121 ?_
      refine lv_aload_n hx hb dX6_advance_124 rfl (lv_at hl 0 rfl) ?_
      refine va_get (D := D) (ci := 6) (v := .int y69_1) (C := RX6) (T := TX6) (N := 10) hx hb hts k2 hown hK.1 hP 0 rfl rfl 7 (by decide) k5 (fun _ h9 => h9) rfl dX6_advance_125 ?_
      refine lv_icmp_ne (tgt := 173) hx hb dX6_advance_128 (by decide) (fun c_123 => ?_) (fun c_123 => ?_)
      · skip
        exact oE_v hx hb hr hlocks hP hD hS (u_116, u_117, y69_1, u_118, u_119) [0, 1] rfl (by decide) ⟨h_120, (show rl 0 h0_behind u_117 from rlm (by have q0 := rle py69_1_h0_behind; have q1 := rle h_122; omega))⟩ (Nat.le_of_ble_eq_true rfl) (Nat.le_of_ble_eq_true rfl) dX6_advance_173
      · skip
        have o_124 : rl 0 u_117 y69_1 := rl_eq c_123
        have h_125 : rg 0 939 u_117 := rl_x o_124 h_120 h_112 (by decide) (by decide)
        have o_126 : rl 0 y69_1 u_117 := rl_eq c_123.symm
        refine lv_aload_n hx hb dX6_advance_131 rfl (lv_at hl 0 rfl) ?_
        refine lv_aload_n hx hb dX6_advance_132 rfl (lv_at hl 0 rfl) ?_
        refine va_get (D := D) (ci := 6) (v := .ref h0_bytes) (C := RX6) (T := TX6) (N := 10) hx hb hts k2 hown hK.1 hP 0 rfl rfl 0 (by decide) k6 (fun _ h9 => h9) rfl dX6_advance_133 ?_
        refine lv_aload_n hx hb dX6_advance_136 rfl (lv_at hl 0 rfl) ?_
        refine va_get (D := D) (ci := 6) (v := .int y69_1) (C := RX6) (T := TX6) (N := 10) hx hb hts k2 hown hK.1 hP 0 rfl rfl 7 (by decide) k5 (fun _ h9 => h9) rfl dX6_advance_137 ?_
        refine va_iald hx hb hK.1 hP 1 0 rfl rfl (rg_in h_112 (by decide) (by decide)) dX6_advance_140 ?_
        refine lv_topi (fun x_127 ex_127 => ?_)
        have h_128 : rg 0 255 x_127 := by rw [ex_127]; exact sg_at (sg_w (a' := 0) (b' := 940) (lo' := 0) (hi' := 255) s_h0_bytes_0 (by decide) (by decide) (by decide) (by decide)) h_112 (by decide) (by decide) (by decide)
        refine oC_i (Wc := []) (Wr := [(h0, .inr (6, [.ref h0_bytes, .int h0_length, .int h0_faultKind, .int h0_faultAt, .long u_116, .int h0_mostBytes, .int u_117, .int y69_1, .int u_118, .int u_119])), (aI ca h0_bytes 940 F_h0_bytes)]) (va_runS (As := [.int x_127]) (rest := [.ref h0]) ⟨hx, hb, hml, hown, hts⟩ (s_X6_isSign l D ca H.size x_127) (va_cwS 1 hts gX6_advance_X6_isSign rfl rfl rfl (by decide +kernel) ⟨Nat.le_of_ble_eq_true rfl, Nat.le_of_ble_eq_true rfl⟩) (oPS hK hP hD [] rfl (by decide)) rfl rfl hl.1 rfl (lv_room (Nat.le_of_ble_eq_true rfl)) dX6_advance_141 ⟨Nat.le_of_ble_eq_true rfl, Nat.le_of_ble_eq_true rfl⟩) hP hD hS hA [] [0, 1] rfl rfl (by decide) (by decide) (fun r_129 u H locs w_130 hP hD hS => ?_)
        obtain ⟨⟩ := u
        have hP : va_P D vwCl [(h0, .inr (6, [.ref h0_bytes, .int h0_length, .int h0_faultKind, .int h0_faultAt, .long u_116, .int h0_mostBytes, .int u_117, .int y69_1, .int u_118, .int u_119])), (aI ca h0_bytes 940 F_h0_bytes)] H := hP
        have hD : va_D A [(h0, .inr (6, [.ref h0_bytes, .int h0_length, .int h0_faultKind, .int h0_faultAt, .long u_116, .int h0_mostBytes, .int u_117, .int y69_1, .int u_118, .int u_119])), (aI ca h0_bytes 940 F_h0_bytes)] := hD
        try dsimp only at w_130
        rcases w_130 with ⟨h_131, h_132⟩ | h_133
        · skip
          subst h_131
          refine lv_if_eq (tgt := 159) hx hb dX6_advance_144 (by decide) (fun c => absurd c (by decide)) (fun _ => ?_)
          refine lv_aload_n hx hb dX6_advance_147 rfl (lv_at hl 0 rfl) ?_
          refine va_get (D := D) (ci := 6) (v := .ref h0_bytes) (C := RX6) (T := TX6) (N := 10) hx hb hts k2 hown hK.1 hP 0 rfl rfl 0 (by decide) k6 (fun _ h9 => h9) rfl dX6_advance_148 ?_
          refine lv_aload_n hx hb dX6_advance_151 rfl (lv_at hl 0 rfl) ?_
          refine va_get (D := D) (ci := 6) (v := .int y69_1) (C := RX6) (T := TX6) (N := 10) hx hb hts k2 hown hK.1 hP 0 rfl rfl 7 (by decide) k5 (fun _ h9 => h9) rfl dX6_advance_152 ?_
          refine va_iald hx hb hK.1 hP 1 0 rfl rfl (rg_in h_112 (by decide) (by decide)) dX6_advance_155 ?_
          refine oti x_127 ex_127.symm ?_
          refine lv_goto (tgt := 160) hx hb dX6_advance_156 (by decide) ?_
          exact J160_104 x_127 u_116 u_117 y69_1 u_118 u_119 (rgw (lo := 0) (hi := 62) h_132 (by decide) (by decide)) h_125 (rlm (by have q0 := rle py69_1_h0_behind; have q1 := rle h_122; omega)) h_112 (rlm (by have q0 := rle py69_1_h0_behind; omega)) h_121 t69_h0_faultKind H locs ls (oPsub hP [0, 1] rfl) (hD.sub [0, 1] (by decide) rfl) hS (lv_sub hl [0] rfl)
        · skip
          subst h_133
          refine lv_if_eq (tgt := 159) hx hb dX6_advance_144 (by decide) (fun _ => ?_) (fun c => absurd (by decide) c)
          refine lv_iconst (v := 0) hx hb dX6_advance_159 (by decide) ?_
          exact J160_104 0 u_116 u_117 y69_1 u_118 u_119 (⟨by decide, by decide⟩ : rg 0 62 (0 : Int32)) h_125 (rlm (by have q0 := rle py69_1_h0_behind; have q1 := rle h_122; omega)) h_112 (rlm (by have q0 := rle py69_1_h0_behind; omega)) h_121 t69_h0_faultKind H locs ls (oPsub hP [0, 1] rfl) (hD.sub [0, 1] (by decide) rfl) hS (lv_sub hl [0] rfl)
    · skip
      have o_134 : rl 0 y69_0 y69_1 := rl_nlt c_110
      refine lv_aload_n hx hb dX6_advance_82 rfl (lv_at hl 0 rfl) ?_
      refine lv_iload_n hx hb dX6_advance_83 rfl (lv_at hl 1 rfl) ?_
      refine va_put (D := D) (ci := 6) (v := .int y69_0) (ty := .int) (C := RX6) (T := TX6) (N := 10) hx hb hts k2 tyX6 tyX6_ok nmX6 hown hK.1 hP hD hS 0 rfl rfl 7 (by decide) k5 (fun _ h9 => h9) rfl (by decide +kernel) rfl rfl (Nat.le_of_ble_eq_true rfl) dX6_advance_84 (fun H locs hP hD hS => ?_)
      have hP : va_P D vwCl [(h0, .inr (6, [.ref h0_bytes, .int h0_length, .int h0_faultKind, .int h0_faultAt, .long 0, .int h0_mostBytes, .int y69_1, .int y69_0, .int h0_kind, .int h0_number])), (aI ca h0_bytes 940 F_h0_bytes)] H := hP
      have hD : va_D A [(h0, .inr (6, [.ref h0_bytes, .int h0_length, .int h0_faultKind, .int h0_faultAt, .long 0, .int h0_mostBytes, .int y69_1, .int y69_0, .int h0_kind, .int h0_number])), (aI ca h0_bytes 940 F_h0_bytes)] := hD
      refine lv_aload_n hx hb dX6_advance_87 rfl (lv_at hl 0 rfl) ?_
      refine lv_aload_n hx hb dX6_advance_88 rfl (lv_at hl 0 rfl) ?_
      refine va_get (D := D) (ci := 6) (v := .int h0_length) (C := RX6) (T := TX6) (N := 10) hx hb hts k2 hown hK.1 hP 0 rfl rfl 1 (by decide) k7 (fun _ h9 => h9) rfl dX6_advance_89 ?_
      refine lv_aload_n hx hb dX6_advance_92 rfl (lv_at hl 0 rfl) ?_
      refine va_get (D := D) (ci := 6) (v := .int h0_mostBytes) (C := RX6) (T := TX6) (N := 10) hx hb hts k2 hown hK.1 hP 0 rfl rfl 5 (by decide) k8 (fun _ h9 => h9) rfl dX6_advance_93 ?_
      refine lv_icmp_le (tgt := 103) hx hb dX6_advance_96 (by decide) (fun c_135 => ?_) (fun c_135 => ?_)
      · skip
        have o_136 : rl 0 h0_length h0_mostBytes := rl_le c_135
        have h_137 : rg 0 2147483647 h0_mostBytes := rl_y o_136 i_h0_length (rga h0_mostBytes) (by decide) (by decide)
        refine lv_iconst (v := 1) hx hb dX6_advance_103 (by decide) ?_
        exact J104_108 1 y69_1 y69_0 (⟨by decide, by decide⟩ : rg 0 1 (1 : Int32)) hy69_1 (rlm (by have q0 := rle py69_1_h0_behind; omega)) hy69_0 (rlm (by have q0 := rle qy69_0_h0_length; omega)) (rlm (by have q0 := rle qy69_0_h0_mostBytes; omega)) t69_h0_faultKind H locs ls (oPsub hP [0, 1] rfl) (hD.sub [0, 1] (by decide) rfl) hS (lv_sub hl [] rfl)
      · skip
        have o_138 : rl 1 h0_mostBytes h0_length := rl_nle c_135
        have h_139 : rg (-2147483648) 939 h0_mostBytes := rl_x o_138 (rga h0_mostBytes) i_h0_length (by decide) (by decide)
        refine lv_iconst (v := 0) hx hb dX6_advance_99 (by decide) ?_
        refine lv_goto (tgt := 104) hx hb dX6_advance_100 (by decide) ?_
        exact J104_108 0 y69_1 y69_0 (⟨by decide, by decide⟩ : rg 0 1 (0 : Int32)) hy69_1 (rlm (by have q0 := rle py69_1_h0_behind; omega)) hy69_0 (rlm (by have q0 := rle qy69_0_h0_mostBytes; have q1 := rle o_138; omega)) (rlm (by have q0 := rle qy69_0_h0_mostBytes; omega)) t69_h0_faultKind H locs ls (oPsub hP [0, 1] rfl) (hD.sub [0, 1] (by decide) rfl) hS (lv_sub hl [] rfl)
  have J20_140 : ∀ (n : Nat) (y20_0 : Int32) (y20_1 : Int32), True → rg (-2147483648) 940 y20_0 → rl 0 y20_0 h0_length → rl 0 y20_0 h0_mostBytes → rg 0 940 y20_1 → rl 0 h0_behind y20_1 → rg 0 0 h0_faultKind → 940 < y20_1.toInt + (n : Int) → ∀ (H : Heap) (locs : List Loc) (ls : Array Slot), va_P D vwCl [(h0, .inr (6, [.ref h0_bytes, .int h0_length, .int h0_faultKind, .int h0_faultAt, .long h0_letters, .int h0_mostBytes, .int y20_1, .int h0_at, .int h0_kind, .int h0_number])), (aI ca h0_bytes 940 F_h0_bytes)] H → va_D A [(h0, .inr (6, [.ref h0_bytes, .int h0_length, .int h0_faultKind, .int h0_faultAt, .long h0_letters, .int h0_mostBytes, .int y20_1, .int h0_at, .int h0_kind, .int h0_number])), (aI ca h0_bytes 940 F_h0_bytes)] → va_S A s.heap H locs → lv_has ls 2 [(0, .ref h0), (1, .int y20_0)] → W p l e ({ frames := 1, cells := 0, slots := 0, locals := 23 } : Room) s m ([.ref h0] : List Value).toArray below meth c H locs 0 0 (MQ below ((oQv D (fun (u : Int64 × Int32 × Int32 × Int32 × Int32) => (rg 0 940 u.2.1) ∧ (rl 0 h0_behind u.2.1)) (fun (u : Int64 × Int32 × Int32 × Int32 × Int32) => [(h0, .inr (6, [.ref h0_bytes, .int h0_length, .int h0_faultKind, .int h0_faultAt, .long u.1, .int h0_mostBytes, .int u.2.1, .int u.2.2.1, .int u.2.2.2.1, .int u.2.2.2.2])), (aI ca h0_bytes 940 F_h0_bytes)])) A) ([.ref h0] : List Value).toArray s 0 0 A) (F0 m 20 ls []) := by
    intro n
    induction n with
    | zero => intro y20_0 y20_1 _ hy20_0 qy20_0_h0_length qy20_0_h0_mostBytes hy20_1 py20_1_h0_behind t20_h0_faultKind hn; exact absurd hn (by have q9 := hy20_1.2; omega)
    | succ n ih =>
      intro y20_0 y20_1 _ hy20_0 qy20_0_h0_length qy20_0_h0_mostBytes hy20_1 py20_1_h0_behind t20_h0_faultKind hn H locs ls hP hD hS hl
      have J56_161 : ∀ (_ : Unit), rg 1 940 y20_0 → rg 0 939 y20_1 → rl 1 y20_1 y20_0 → ∀ (H : Heap) (locs : List Loc) (ls : Array Slot), va_P D vwCl [(h0, .inr (6, [.ref h0_bytes, .int h0_length, .int h0_faultKind, .int h0_faultAt, .long h0_letters, .int h0_mostBytes, .int y20_1, .int h0_at, .int h0_kind, .int h0_number])), (aI ca h0_bytes 940 F_h0_bytes)] H → va_D A [(h0, .inr (6, [.ref h0_bytes, .int h0_length, .int h0_faultKind, .int h0_faultAt, .long h0_letters, .int h0_mostBytes, .int y20_1, .int h0_at, .int h0_kind, .int h0_number])), (aI ca h0_bytes 940 F_h0_bytes)] → va_S A s.heap H locs → lv_has ls 2 [(0, .ref h0), (1, .int y20_0)] → W p l e ({ frames := 1, cells := 0, slots := 0, locals := 23 } : Room) s m ([.ref h0] : List Value).toArray below meth c H locs 0 0 (MQ below ((oQv D (fun (u : Int64 × Int32 × Int32 × Int32 × Int32) => (rg 0 940 u.2.1) ∧ (rl 0 h0_behind u.2.1)) (fun (u : Int64 × Int32 × Int32 × Int32 × Int32) => [(h0, .inr (6, [.ref h0_bytes, .int h0_length, .int h0_faultKind, .int h0_faultAt, .long u.1, .int h0_mostBytes, .int u.2.1, .int u.2.2.1, .int u.2.2.2.1, .int u.2.2.2.2])), (aI ca h0_bytes 940 F_h0_bytes)])) A) ([.ref h0] : List Value).toArray s 0 0 A) (F0 m 56 ls []) := by
        intro _ t56_y20_0 t56_y20_1 o56_y20_1_y20_0 H locs ls hP hD hS hl
        refine lv_aload_n hx hb dX6_advance_56 rfl (lv_at hl 0 rfl) ?_
        refine lv_dup hx hb dX6_advance_57 rfl ?_
        refine va_get (D := D) (ci := 6) (v := .int y20_1) (C := RX6) (T := TX6) (N := 10) hx hb hts k2 hown hK.1 hP 0 rfl rfl 6 (by decide) k3 (fun _ h9 => h9) rfl dX6_advance_58 ?_
        refine lv_iconst (v := 1) hx hb dX6_advance_61 (by decide) ?_
        refine lv_iadd hx hb dX6_advance_62 ?_
        refine lv_topi (fun x_162 ex_162 => ?_)
        have h_163 : rg 1 940 x_162 := by rw [ex_162]; exact rg_add t56_y20_1 (⟨by decide, by decide⟩ : rg 1 1 (1 : Int32)) (by decide) (by decide) (by decide) (by decide)
        have l_164 : lq x_162.toInt (y20_1.toInt + 1) := lqm (by rw [ex_162]; have q := tadd t56_y20_1 (⟨by decide, by decide⟩ : rg 1 1 (1 : Int32)) (by decide) (by decide); have r1 := lqe (lqm (by decide) : lq (1 : Int32).toInt 1); omega)
        refine va_put (D := D) (ci := 6) (v := .int x_162) (ty := .int) (C := RX6) (T := TX6) (N := 10) hx hb hts k2 tyX6 tyX6_ok nmX6 hown hK.1 hP hD hS 0 rfl rfl 6 (by decide) k3 (fun _ h9 => h9) rfl (by decide +kernel) rfl rfl (Nat.le_of_ble_eq_true rfl) dX6_advance_63 (fun H locs hP hD hS => ?_)
        have hP : va_P D vwCl [(h0, .inr (6, [.ref h0_bytes, .int h0_length, .int h0_faultKind, .int h0_faultAt, .long h0_letters, .int h0_mostBytes, .int x_162, .int h0_at, .int h0_kind, .int h0_number])), (aI ca h0_bytes 940 F_h0_bytes)] H := hP
        have hD : va_D A [(h0, .inr (6, [.ref h0_bytes, .int h0_length, .int h0_faultKind, .int h0_faultAt, .long h0_letters, .int h0_mostBytes, .int x_162, .int h0_at, .int h0_kind, .int h0_number])), (aI ca h0_bytes 940 F_h0_bytes)] := hD
        refine lv_goto (tgt := 20) hx hb dX6_advance_66 (by decide) ?_
        exact ih y20_0 x_162 trivial (rgw (lo := (-2147483648)) (hi := 940) t56_y20_0 (by decide) (by decide)) (rlm (by have q0 := rle qy20_0_h0_length; omega)) (rlm (by have q0 := rle qy20_0_h0_mostBytes; omega)) (rgw (lo := 0) (hi := 940) h_163 (by decide) (by decide)) (rlm (by have q0 := lqe l_164; have q1 := rle py20_1_h0_behind; omega)) t20_h0_faultKind (by have q0 := lqe l_164; omega) H locs ls (oPsub hP [0, 1] rfl) (hD.sub [0, 1] (by decide) rfl) hS (lv_sub hl [0, 1] rfl)
      refine lv_aload_n hx hb dX6_advance_20 rfl (lv_at hl 0 rfl) ?_
      refine va_get (D := D) (ci := 6) (v := .int y20_1) (C := RX6) (T := TX6) (N := 10) hx hb hts k2 hown hK.1 hP 0 rfl rfl 6 (by decide) k3 (fun _ h9 => h9) rfl dX6_advance_21 ?_
      refine lv_iload_n hx hb dX6_advance_24 rfl (lv_at hl 1 rfl) ?_
      refine lv_icmp_ge (tgt := 69) hx hb dX6_advance_25 (by decide) (fun c_165 => ?_) (fun c_165 => ?_)
      · skip
        have o_166 : rl 0 y20_0 y20_1 := rl_le c_165
        exact J69_109 y20_0 y20_1 hy20_0 (rlm (by have q0 := rle qy20_0_h0_length; omega)) (rlm (by have q0 := rle qy20_0_h0_mostBytes; omega)) hy20_1 (rlm (by have q0 := rle py20_1_h0_behind; omega)) t20_h0_faultKind H locs ls (oPsub hP [0, 1] rfl) (hD.sub [0, 1] (by decide) rfl) hS (lv_sub hl [0, 1] rfl)
      · skip
        have o_167 : rl 1 y20_1 y20_0 := rl_nle c_165
        have h_168 : rg 0 939 y20_1 := rl_x o_167 hy20_1 hy20_0 (by decide) (by decide)
        have h_169 : rg 1 940 y20_0 := rl_y o_167 hy20_1 hy20_0 (by decide) (by decide)
        refine lv_aload_n hx hb dX6_advance_28 rfl (lv_at hl 0 rfl) ?_
        refine va_get (D := D) (ci := 6) (v := .ref h0_bytes) (C := RX6) (T := TX6) (N := 10) hx hb hts k2 hown hK.1 hP 0 rfl rfl 0 (by decide) k6 (fun _ h9 => h9) rfl dX6_advance_29 ?_
        refine lv_aload_n hx hb dX6_advance_32 rfl (lv_at hl 0 rfl) ?_
        refine va_get (D := D) (ci := 6) (v := .int y20_1) (C := RX6) (T := TX6) (N := 10) hx hb hts k2 hown hK.1 hP 0 rfl rfl 6 (by decide) k3 (fun _ h9 => h9) rfl dX6_advance_33 ?_
        refine va_iald hx hb hK.1 hP 1 0 rfl rfl (rg_in h_168 (by decide) (by decide)) dX6_advance_36 ?_
        refine lv_topi (fun x_170 ex_170 => ?_)
        have h_171 : rg 0 255 x_170 := by rw [ex_170]; exact sg_at (sg_w (a' := 0) (b' := 940) (lo' := 0) (hi' := 255) s_h0_bytes_0 (by decide) (by decide) (by decide) (by decide)) h_168 (by decide) (by decide) (by decide)
        refine lv_bipush (v := 32) hx hb dX6_advance_37 (by decide) ?_
        refine lv_icmp_eq (tgt := 56) hx hb dX6_advance_39 (by decide) (fun c_172 => ?_) (fun c_172 => ?_)
        · skip
          have o_173 : rl 0 x_170 32 := rl_eq c_172
          have h_174 : rg 0 32 x_170 := rl_x o_173 h_171 (⟨by decide, by decide⟩ : rg 32 32 (32 : Int32)) (by decide) (by decide)
          have o_175 : rl 0 32 x_170 := rl_eq c_172.symm
          have h_176 : rg 32 32 x_170 := rl_y o_175 (⟨by decide, by decide⟩ : rg 32 32 (32 : Int32)) h_174 (by decide) (by decide)
          exact J56_161 () h_169 h_168 o_167 H locs ls (oPsub hP [0, 1] rfl) (hD.sub [0, 1] (by decide) rfl) hS (lv_sub hl [0, 1] rfl)
        · skip
          refine lv_aload_n hx hb dX6_advance_42 rfl (lv_at hl 0 rfl) ?_
          refine va_get (D := D) (ci := 6) (v := .ref h0_bytes) (C := RX6) (T := TX6) (N := 10) hx hb hts k2 hown hK.1 hP 0 rfl rfl 0 (by decide) k6 (fun _ h9 => h9) rfl dX6_advance_43 ?_
          refine lv_aload_n hx hb dX6_advance_46 rfl (lv_at hl 0 rfl) ?_
          refine va_get (D := D) (ci := 6) (v := .int y20_1) (C := RX6) (T := TX6) (N := 10) hx hb hts k2 hown hK.1 hP 0 rfl rfl 6 (by decide) k3 (fun _ h9 => h9) rfl dX6_advance_47 ?_
          refine va_iald hx hb hK.1 hP 1 0 rfl rfl (rg_in h_168 (by decide) (by decide)) dX6_advance_50 ?_
          refine oti x_170 ex_170.symm ?_
          refine lv_bipush (v := 10) hx hb dX6_advance_51 (by decide) ?_
          refine lv_icmp_ne (tgt := 69) hx hb dX6_advance_53 (by decide) (fun c_177 => ?_) (fun c_177 => ?_)
          · skip
            exact J69_109 y20_0 y20_1 (rgw (lo := (-2147483648)) (hi := 940) h_169 (by decide) (by decide)) (rlm (by have q0 := rle qy20_0_h0_length; omega)) (rlm (by have q0 := rle qy20_0_h0_mostBytes; omega)) (rgw (lo := 0) (hi := 940) h_168 (by decide) (by decide)) (rlm (by have q0 := rle py20_1_h0_behind; omega)) t20_h0_faultKind H locs ls (oPsub hP [0, 1] rfl) (hD.sub [0, 1] (by decide) rfl) hS (lv_sub hl [0, 1] rfl)
          · skip
            have o_178 : rl 0 x_170 10 := rl_eq c_177
            have h_179 : rg 0 10 x_170 := rl_x o_178 h_171 (⟨by decide, by decide⟩ : rg 10 10 (10 : Int32)) (by decide) (by decide)
            have o_180 : rl 0 10 x_170 := rl_eq c_177.symm
            have h_181 : rg 10 10 x_170 := rl_y o_180 (⟨by decide, by decide⟩ : rg 10 10 (10 : Int32)) h_179 (by decide) (by decide)
            exact J56_161 () h_169 h_168 o_167 H locs ls (oPsub hP [0, 1] rfl) (hD.sub [0, 1] (by decide) rfl) hS (lv_sub hl [0, 1] rfl)
  refine lv_aload_n hx hb dX6_advance_0 rfl (lv_at hl 0 rfl) ?_
  refine oC_i (Wc := [(h0, .inr (6, [.ref h0_bytes, .int h0_length, .int h0_faultKind, .int h0_faultAt, .long h0_letters, .int h0_mostBytes, .int h0_behind, .int h0_at, .int h0_kind, .int h0_number]))]) (Wr := [(aI ca h0_bytes 940 F_h0_bytes)]) (va_runV (As := []) (rest := []) ⟨hx, hb, hml, hown, hts⟩ (s_X6_isBroken l D ca H.size h0 h0_bytes h0_length h0_faultKind h0_faultAt h0_letters h0_mostBytes h0_behind h0_at h0_kind h0_number i_h0_length i_h0_faultKind i_h0_behind) (cwV 0 hts gX6_advance_X6_isBroken rfl rfl rfl (by decide +kernel) ⟨Nat.le_of_ble_eq_true rfl, Nat.le_of_ble_eq_true rfl⟩) (oPV (C := RX6) hK hP hD [0] rfl (by decide) 0 rfl (ci := 6) rfl rfl) rfl rfl hl.1 rfl (lv_room (Nat.le_of_ble_eq_true rfl)) dX6_advance_1 ⟨Nat.le_of_ble_eq_true rfl, Nat.le_of_ble_eq_true rfl⟩) hP hD hS hA [0] [1] rfl rfl (by decide) (by decide) (fun r_182 u H locs w_183 hP hD hS => ?_)
  obtain ⟨⟩ := u
  have hP : va_P D vwCl [(aI ca h0_bytes 940 F_h0_bytes), (h0, .inr (6, [.ref h0_bytes, .int h0_length, .int h0_faultKind, .int h0_faultAt, .long h0_letters, .int h0_mostBytes, .int h0_behind, .int h0_at, .int h0_kind, .int h0_number]))] H := hP
  have hD : va_D A [(aI ca h0_bytes 940 F_h0_bytes), (h0, .inr (6, [.ref h0_bytes, .int h0_length, .int h0_faultKind, .int h0_faultAt, .long h0_letters, .int h0_mostBytes, .int h0_behind, .int h0_at, .int h0_kind, .int h0_number]))] := hD
  try dsimp only at w_183
  rcases w_183 with ⟨h_184, h_185⟩ | ⟨h_186, h_187⟩
  · skip
    subst h_184
    refine lv_if_eq (tgt := 8) hx hb dX6_advance_4 (by decide) (fun _ => ?_) (fun c => absurd (by decide) c)
    refine lv_aload_n hx hb dX6_advance_8 rfl (lv_at hl 0 rfl) ?_
    refine va_get (D := D) (ci := 6) (v := .int h0_length) (C := RX6) (T := TX6) (N := 10) hx hb hts k2 hown hK.1 hP 1 rfl rfl 1 (by decide) k7 (fun _ h9 => h9) rfl dX6_advance_9 ?_
    refine lv_aload_n hx hb dX6_advance_12 rfl (lv_at hl 0 rfl) ?_
    refine va_get (D := D) (ci := 6) (v := .int h0_mostBytes) (C := RX6) (T := TX6) (N := 10) hx hb hts k2 hown hK.1 hP 1 rfl rfl 5 (by decide) k8 (fun _ h9 => h9) rfl dX6_advance_13 ?_
    refine va_mmin hx hb (by rw [hml]; exact hl.1.symm) hown k9 k10 k11 k12 (Nat.le_of_ble_eq_true rfl) (Nat.le_of_ble_eq_true rfl) (Nat.le_of_ble_eq_true rfl) (Nat.le_of_ble_eq_true rfl) dX6_advance_16 ?_
    refine lv_topi (fun x_188 ex_188 => ?_)
    have h_189 : rg (-2147483648) 940 x_188 := by rw [ex_188]; exact rg_mn i_h0_length (rga h0_mostBytes) (by decide) (by decide) (by decide) (by decide)
    have o_190 : rl 0 x_188 h0_length := by rw [ex_188]; exact rl_mn1 _ _
    have o_191 : rl 0 x_188 h0_mostBytes := by rw [ex_188]; exact rl_mn2 _ _
    refine lv_istore_n (lv' := [(1, .int x_188), (0, .ref h0)]) hx hb dX6_advance_19 rfl hl (by decide) rfl (fun ls hl => ?_)
    exact J20_140 941 x_188 h0_behind trivial h_189 (rlm (by have q0 := rle o_190; omega)) (rlm (by have q0 := rle o_191; omega)) i_h0_behind (rlm (by omega)) h_185 (by have q0 := i_h0_behind.1; omega) H locs ls (oPsub hP [1, 0] rfl) (hD.sub [1, 0] (by decide) rfl) hS (lv_sub hl [1, 0] rfl)
  · skip
    subst h_186
    refine lv_if_eq (tgt := 8) hx hb dX6_advance_4 (by decide) (fun c => absurd c (by decide)) (fun _ => ?_)
    exact oE_v hx hb hr hlocks hP hD hS (h0_letters, h0_behind, h0_at, h0_kind, h0_number) [1, 0] rfl (by decide) ⟨i_h0_behind, (show rl 0 h0_behind h0_behind from rlm (by omega))⟩ (Nat.le_of_ble_eq_true rfl) (Nat.le_of_ble_eq_true rfl) dX6_advance_7
theorem dX6_begin_0 : decode cX6_begin 0 = .ok (.aload_n 0, 1) := by decide +kernel
theorem dX6_begin_1 : decode cX6_begin 1 = .ok (.iload_n 1, 1) := by decide +kernel
theorem dX6_begin_2 : decode cX6_begin 2 = .ok (.putfield 19, 3) := by decide +kernel
theorem dX6_begin_5 : decode cX6_begin 5 = .ok (.aload_n 0, 1) := by decide +kernel
theorem dX6_begin_6 : decode cX6_begin 6 = .ok (.iconst 0, 1) := by decide +kernel
theorem dX6_begin_7 : decode cX6_begin 7 = .ok (.putfield 22, 3) := by decide +kernel
theorem dX6_begin_10 : decode cX6_begin 10 = .ok (.aload_n 0, 1) := by decide +kernel
theorem dX6_begin_11 : decode cX6_begin 11 = .ok (.iconst 0, 1) := by decide +kernel
theorem dX6_begin_12 : decode cX6_begin 12 = .ok (.putfield 25, 3) := by decide +kernel
theorem dX6_begin_15 : decode cX6_begin 15 = .ok (.aload_n 0, 1) := by decide +kernel
theorem dX6_begin_16 : decode cX6_begin 16 = .ok (.iconst 0, 1) := by decide +kernel
theorem dX6_begin_17 : decode cX6_begin 17 = .ok (.putfield 28, 3) := by decide +kernel
theorem dX6_begin_20 : decode cX6_begin 20 = .ok (.aload_n 0, 1) := by decide +kernel
theorem dX6_begin_21 : decode cX6_begin 21 = .ok (.invokevirtual 31, 3) := by decide +kernel
theorem dX6_begin_24 : decode cX6_begin 24 = .ok (.return_, 1) := by decide +kernel
set_option maxRecDepth 20000 in
theorem ggX6_begin_X6_advance : GoodIn wsX6_begin wsX6_advance := goodIn_r _ [9, 10, 1, 11, 12, 13, 14, 2, 15, 16, 17, 18, 19, 20, 21, 8, 22, 3, 23, 24, 25, 26, 27, 28, 29, 30, 31, 32, 33, 34, 35, 36, 37, 38, 39, 40, 41] rfl (by decide +kernel)
set_option maxRecDepth 20000 in
theorem gX6_begin_X6_advance : GoodIn wsX6_begin (wsV RX6 31 RX6 yX6_advance wsX6_advance) := goodIn_app (goodIn_of _ (by decide +kernel)) ggX6_begin_X6_advance
set_option maxHeartbeats 4000000 in
set_option maxRecDepth 100000 in
theorem s_X6_begin (l : Launch) (D : va_G) (ca : Nat → ClassId) (sz : Nat) (h0 : Nat) (a1 : Int32) (h0_bytes : Nat) (h0_length : Int32) (h0_faultKind : Int32) (h0_faultAt : Int32) (h0_letters : Int64) (h0_mostBytes : Int32) (h0_behind : Int32) (h0_at : Int32) (h0_kind : Int32) (h0_number : Int32) (F_h0_bytes : Nat → Int32) (i_h0_length : rg 0 940 h0_length) (i_h0_faultKind : rg 0 4 h0_faultKind) (i_h0_behind : rg 0 940 h0_behind) (s_h0_bytes_0 : sg 0 940 0 255 F_h0_bytes) : oMet l yX6_begin wsX6_begin ({ frames := 2, cells := 0, slots := 0, locals := 44 } : Room) [.ref h0, .int a1] D ca sz [(h0, .inr (6, [.ref h0_bytes, .int h0_length, .int h0_faultKind, .int h0_faultAt, .long h0_letters, .int h0_mostBytes, .int h0_behind, .int h0_at, .int h0_kind, .int h0_number])), (aI ca h0_bytes 940 F_h0_bytes)] (oQv D (fun (u : Int64 × Int32 × Int32 × Int32 × Int32) => (rg 0 940 u.2.1)) (fun (u : Int64 × Int32 × Int32 × Int32 × Int32) => [(h0, .inr (6, [.ref h0_bytes, .int h0_length, .int 0, .int 0, .long u.1, .int a1, .int u.2.1, .int u.2.2.1, .int u.2.2.2.1, .int u.2.2.2.2])), (aI ca h0_bytes 940 F_h0_bytes)])) 0 0 := by
  refine oM (cc := cX6_begin) (maxL := 2) (ret := none) (by decide) rfl (Nat.le_of_ble_eq_true rfl) [(0, .ref h0), (1, .int a1)] rfl ?_
  intro p e s m below meth c A H locs ls hx hb hr hml hts hown hlocks hin hK hP hD hA hS hl
  have hown : s.vm.findClass RX6 = some m.cls := hown
  have k1 := hts (.fieldLink RX6 19 "LidCourt$Reader" "mostBytes" "I") (by decide +kernel)
  have k2 : ∀ w ∈ wsX60, w ∈ wsX6_begin := fun _ h => List.mem_cons_of_mem _ (List.mem_append_right _ h)
  have k3 := hts (.fieldLink RX6 22 "LidCourt$Reader" "behind" "I") (by decide +kernel)
  have k4 := hts (.fieldLink RX6 25 "LidCourt$Reader" "faultKind" "I") (by decide +kernel)
  have k5 := hts (.fieldLink RX6 28 "LidCourt$Reader" "faultAt" "I") (by decide +kernel)
  refine lv_aload_n hx hb dX6_begin_0 rfl (lv_at hl 0 rfl) ?_
  refine lv_iload_n hx hb dX6_begin_1 rfl (lv_at hl 1 rfl) ?_
  refine va_put (D := D) (ci := 6) (v := .int a1) (ty := .int) (C := RX6) (T := TX6) (N := 10) hx hb hts k2 tyX6 tyX6_ok nmX6 hown hK.1 hP hD hS 0 rfl rfl 5 (by decide) k1 (fun _ h9 => h9) rfl (by decide +kernel) rfl rfl (Nat.le_of_ble_eq_true rfl) dX6_begin_2 (fun H locs hP hD hS => ?_)
  have hP : va_P D vwCl [(h0, .inr (6, [.ref h0_bytes, .int h0_length, .int h0_faultKind, .int h0_faultAt, .long h0_letters, .int a1, .int h0_behind, .int h0_at, .int h0_kind, .int h0_number])), (aI ca h0_bytes 940 F_h0_bytes)] H := hP
  have hD : va_D A [(h0, .inr (6, [.ref h0_bytes, .int h0_length, .int h0_faultKind, .int h0_faultAt, .long h0_letters, .int a1, .int h0_behind, .int h0_at, .int h0_kind, .int h0_number])), (aI ca h0_bytes 940 F_h0_bytes)] := hD
  refine lv_aload_n hx hb dX6_begin_5 rfl (lv_at hl 0 rfl) ?_
  refine lv_iconst (v := 0) hx hb dX6_begin_6 (by decide) ?_
  refine va_put (D := D) (ci := 6) (v := .int 0) (ty := .int) (C := RX6) (T := TX6) (N := 10) hx hb hts k2 tyX6 tyX6_ok nmX6 hown hK.1 hP hD hS 0 rfl rfl 6 (by decide) k3 (fun _ h9 => h9) rfl (by decide +kernel) rfl rfl (Nat.le_of_ble_eq_true rfl) dX6_begin_7 (fun H locs hP hD hS => ?_)
  have hP : va_P D vwCl [(h0, .inr (6, [.ref h0_bytes, .int h0_length, .int h0_faultKind, .int h0_faultAt, .long h0_letters, .int a1, .int 0, .int h0_at, .int h0_kind, .int h0_number])), (aI ca h0_bytes 940 F_h0_bytes)] H := hP
  have hD : va_D A [(h0, .inr (6, [.ref h0_bytes, .int h0_length, .int h0_faultKind, .int h0_faultAt, .long h0_letters, .int a1, .int 0, .int h0_at, .int h0_kind, .int h0_number])), (aI ca h0_bytes 940 F_h0_bytes)] := hD
  refine lv_aload_n hx hb dX6_begin_10 rfl (lv_at hl 0 rfl) ?_
  refine lv_iconst (v := 0) hx hb dX6_begin_11 (by decide) ?_
  refine va_put (D := D) (ci := 6) (v := .int 0) (ty := .int) (C := RX6) (T := TX6) (N := 10) hx hb hts k2 tyX6 tyX6_ok nmX6 hown hK.1 hP hD hS 0 rfl rfl 2 (by decide) k4 (fun _ h9 => h9) rfl (by decide +kernel) rfl rfl (Nat.le_of_ble_eq_true rfl) dX6_begin_12 (fun H locs hP hD hS => ?_)
  have hP : va_P D vwCl [(h0, .inr (6, [.ref h0_bytes, .int h0_length, .int 0, .int h0_faultAt, .long h0_letters, .int a1, .int 0, .int h0_at, .int h0_kind, .int h0_number])), (aI ca h0_bytes 940 F_h0_bytes)] H := hP
  have hD : va_D A [(h0, .inr (6, [.ref h0_bytes, .int h0_length, .int 0, .int h0_faultAt, .long h0_letters, .int a1, .int 0, .int h0_at, .int h0_kind, .int h0_number])), (aI ca h0_bytes 940 F_h0_bytes)] := hD
  refine lv_aload_n hx hb dX6_begin_15 rfl (lv_at hl 0 rfl) ?_
  refine lv_iconst (v := 0) hx hb dX6_begin_16 (by decide) ?_
  refine va_put (D := D) (ci := 6) (v := .int 0) (ty := .int) (C := RX6) (T := TX6) (N := 10) hx hb hts k2 tyX6 tyX6_ok nmX6 hown hK.1 hP hD hS 0 rfl rfl 3 (by decide) k5 (fun _ h9 => h9) rfl (by decide +kernel) rfl rfl (Nat.le_of_ble_eq_true rfl) dX6_begin_17 (fun H locs hP hD hS => ?_)
  have hP : va_P D vwCl [(h0, .inr (6, [.ref h0_bytes, .int h0_length, .int 0, .int 0, .long h0_letters, .int a1, .int 0, .int h0_at, .int h0_kind, .int h0_number])), (aI ca h0_bytes 940 F_h0_bytes)] H := hP
  have hD : va_D A [(h0, .inr (6, [.ref h0_bytes, .int h0_length, .int 0, .int 0, .long h0_letters, .int a1, .int 0, .int h0_at, .int h0_kind, .int h0_number])), (aI ca h0_bytes 940 F_h0_bytes)] := hD
  refine lv_aload_n hx hb dX6_begin_20 rfl (lv_at hl 0 rfl) ?_
  refine oC_v (Wc := [(h0, .inr (6, [.ref h0_bytes, .int h0_length, .int 0, .int 0, .long h0_letters, .int a1, .int 0, .int h0_at, .int h0_kind, .int h0_number])), (aI ca h0_bytes 940 F_h0_bytes)]) (Wr := []) (va_runV (As := []) (rest := []) ⟨hx, hb, hml, hown, hts⟩ (s_X6_advance l D ca H.size h0 h0_bytes h0_length 0 0 h0_letters a1 0 h0_at h0_kind h0_number F_h0_bytes i_h0_length (⟨by decide, by decide⟩ : rg 0 4 (0 : Int32)) (⟨by decide, by decide⟩ : rg 0 940 (0 : Int32)) s_h0_bytes_0) (cwV 0 hts gX6_begin_X6_advance rfl rfl rfl (by decide +kernel) ⟨Nat.le_of_ble_eq_true rfl, Nat.le_of_ble_eq_true rfl⟩) (oPV (C := RX6) hK hP hD [0, 1] rfl (by decide) 0 rfl (ci := 6) rfl rfl) rfl rfl hl.1 rfl (lv_room (Nat.le_of_ble_eq_true rfl)) dX6_begin_21 ⟨Nat.le_of_ble_eq_true rfl, Nat.le_of_ble_eq_true rfl⟩) hP hD hS hA [0, 1] [] rfl rfl (by decide) (by decide) (fun u H locs w_11 hP hD hS => ?_)
  obtain ⟨u_12, u_13, u_14, u_15, u_16⟩ := u
  have hP : va_P D vwCl [(h0, .inr (6, [.ref h0_bytes, .int h0_length, .int 0, .int 0, .long u_12, .int a1, .int u_13, .int u_14, .int u_15, .int u_16])), (aI ca h0_bytes 940 F_h0_bytes)] H := hP
  have hD : va_D A [(h0, .inr (6, [.ref h0_bytes, .int h0_length, .int 0, .int 0, .long u_12, .int a1, .int u_13, .int u_14, .int u_15, .int u_16])), (aI ca h0_bytes 940 F_h0_bytes)] := hD
  try dsimp only at w_11
  obtain ⟨h_17, h_18⟩ := w_11
  exact oE_v hx hb hr hlocks hP hD hS (u_12, u_13, u_14, u_15, u_16) [0, 1] rfl (by decide) h_17 (Nat.le_of_ble_eq_true rfl) (Nat.le_of_ble_eq_true rfl) dX6_begin_24
theorem dX6_goesOn_0 : decode cX6_goesOn 0 = .ok (.aload_n 0, 1) := by decide +kernel
theorem dX6_goesOn_1 : decode cX6_goesOn 1 = .ok (.invokevirtual 34, 3) := by decide +kernel
theorem dX6_goesOn_4 : decode cX6_goesOn 4 = .ok (.ifCond .ne 15, 3) := by decide +kernel
theorem dX6_goesOn_7 : decode cX6_goesOn 7 = .ok (.aload_n 0, 1) := by decide +kernel
theorem dX6_goesOn_8 : decode cX6_goesOn 8 = .ok (.getfield 51, 3) := by decide +kernel
theorem dX6_goesOn_11 : decode cX6_goesOn 11 = .ok (.iconst 1, 1) := by decide +kernel
theorem dX6_goesOn_12 : decode cX6_goesOn 12 = .ok (.if_icmp .eq 7, 3) := by decide +kernel
theorem dX6_goesOn_15 : decode cX6_goesOn 15 = .ok (.iconst 1, 1) := by decide +kernel
theorem dX6_goesOn_16 : decode cX6_goesOn 16 = .ok (.goto 4, 3) := by decide +kernel
theorem dX6_goesOn_19 : decode cX6_goesOn 19 = .ok (.iconst 0, 1) := by decide +kernel
theorem dX6_goesOn_20 : decode cX6_goesOn 20 = .ok (.ireturn, 1) := by decide +kernel
set_option maxRecDepth 20000 in
theorem ggX6_goesOn_X6_isBroken : GoodIn wsX6_goesOn wsX6_isBroken := goodIn_r _ [6, 7, 8, 9, 10, 11, 12, 13, 14, 15, 16, 17] rfl (by decide +kernel)
set_option maxRecDepth 20000 in
theorem gX6_goesOn_X6_isBroken : GoodIn wsX6_goesOn (wsV RX6 34 RX6 yX6_isBroken wsX6_isBroken) := goodIn_app (goodIn_of _ (by decide +kernel)) ggX6_goesOn_X6_isBroken
set_option maxHeartbeats 4000000 in
set_option maxRecDepth 100000 in
theorem s_X6_goesOn (l : Launch) (D : va_G) (ca : Nat → ClassId) (sz : Nat) (h0 : Nat) (h0_bytes : Nat) (h0_length : Int32) (h0_faultKind : Int32) (h0_faultAt : Int32) (h0_letters : Int64) (h0_mostBytes : Int32) (h0_behind : Int32) (h0_at : Int32) (h0_kind : Int32) (h0_number : Int32) (i_h0_length : rg 0 940 h0_length) (i_h0_faultKind : rg 0 4 h0_faultKind) (i_h0_behind : rg 0 940 h0_behind) : oMet l yX6_goesOn wsX6_goesOn ({ frames := 1, cells := 0, slots := 0, locals := 20 } : Room) [.ref h0] D ca sz [(h0, .inr (6, [.ref h0_bytes, .int h0_length, .int h0_faultKind, .int h0_faultAt, .long h0_letters, .int h0_mostBytes, .int h0_behind, .int h0_at, .int h0_kind, .int h0_number]))] (oQi D (fun (r : Int32) (u : Unit) => ((r = 0)) ∨ ((r = 1) ∧ (rg 0 0 h0_faultKind))) (fun (u : Unit) => [(h0, .inr (6, [.ref h0_bytes, .int h0_length, .int h0_faultKind, .int h0_faultAt, .long h0_letters, .int h0_mostBytes, .int h0_behind, .int h0_at, .int h0_kind, .int h0_number]))])) 0 0 := by
  refine oM (cc := cX6_goesOn) (maxL := 1) (ret := (some .boolean)) (by decide) rfl (Nat.le_of_ble_eq_true rfl) [(0, .ref h0)] rfl ?_
  intro p e s m below meth c A H locs ls hx hb hr hml hts hown hlocks hin hK hP hD hA hS hl
  have hown : s.vm.findClass RX6 = some m.cls := hown
  have k1 := hts (.fieldLink RX6 51 "LidCourt$Reader" "kind" "I") (by decide +kernel)
  have k2 : ∀ w ∈ wsX60, w ∈ wsX6_goesOn := fun _ h => List.mem_cons_of_mem _ (List.mem_append_right _ h)
  refine lv_aload_n hx hb dX6_goesOn_0 rfl (lv_at hl 0 rfl) ?_
  refine oC_i (Wc := [(h0, .inr (6, [.ref h0_bytes, .int h0_length, .int h0_faultKind, .int h0_faultAt, .long h0_letters, .int h0_mostBytes, .int h0_behind, .int h0_at, .int h0_kind, .int h0_number]))]) (Wr := []) (va_runV (As := []) (rest := []) ⟨hx, hb, hml, hown, hts⟩ (s_X6_isBroken l D ca H.size h0 h0_bytes h0_length h0_faultKind h0_faultAt h0_letters h0_mostBytes h0_behind h0_at h0_kind h0_number i_h0_length i_h0_faultKind i_h0_behind) (cwV 0 hts gX6_goesOn_X6_isBroken rfl rfl rfl (by decide +kernel) ⟨Nat.le_of_ble_eq_true rfl, Nat.le_of_ble_eq_true rfl⟩) (oPV (C := RX6) hK hP hD [0] rfl (by decide) 0 rfl (ci := 6) rfl rfl) rfl rfl hl.1 rfl (lv_room (Nat.le_of_ble_eq_true rfl)) dX6_goesOn_1 ⟨Nat.le_of_ble_eq_true rfl, Nat.le_of_ble_eq_true rfl⟩) hP hD hS hA [0] [] rfl rfl (by decide) (by decide) (fun r_12 u H locs w_13 hP hD hS => ?_)
  obtain ⟨⟩ := u
  have hP : va_P D vwCl [(h0, .inr (6, [.ref h0_bytes, .int h0_length, .int h0_faultKind, .int h0_faultAt, .long h0_letters, .int h0_mostBytes, .int h0_behind, .int h0_at, .int h0_kind, .int h0_number]))] H := hP
  have hD : va_D A [(h0, .inr (6, [.ref h0_bytes, .int h0_length, .int h0_faultKind, .int h0_faultAt, .long h0_letters, .int h0_mostBytes, .int h0_behind, .int h0_at, .int h0_kind, .int h0_number]))] := hD
  try dsimp only at w_13
  rcases w_13 with ⟨h_14, h_15⟩ | ⟨h_16, h_17⟩
  · skip
    subst h_14
    refine lv_if_ne (tgt := 19) hx hb dX6_goesOn_4 (by decide) (fun c => absurd (by decide) c) (fun _ => ?_)
    refine lv_aload_n hx hb dX6_goesOn_7 rfl (lv_at hl 0 rfl) ?_
    refine va_get (D := D) (ci := 6) (v := .int h0_kind) (C := RX6) (T := TX6) (N := 10) hx hb hts k2 hown hK.1 hP 0 rfl rfl 8 (by decide) k1 (fun _ h9 => h9) rfl dX6_goesOn_8 ?_
    refine lv_iconst (v := 1) hx hb dX6_goesOn_11 (by decide) ?_
    refine lv_icmp_eq (tgt := 19) hx hb dX6_goesOn_12 (by decide) (fun c_18 => ?_) (fun c_18 => ?_)
    · skip
      have o_19 : rl 0 h0_kind 1 := rl_eq c_18
      have h_20 : rg (-2147483648) 1 h0_kind := rl_x o_19 (rga h0_kind) (⟨by decide, by decide⟩ : rg 1 1 (1 : Int32)) (by decide) (by decide)
      have o_21 : rl 0 1 h0_kind := rl_eq c_18.symm
      have h_22 : rg 1 1 h0_kind := rl_y o_21 (⟨by decide, by decide⟩ : rg 1 1 (1 : Int32)) h_20 (by decide) (by decide)
      refine lv_iconst (v := 0) hx hb dX6_goesOn_19 (by decide) ?_
      exact oE_i hx hb hr (by decide) hlocks hP hD hS () [0] rfl (by decide) (Or.inl rfl) (Nat.le_of_ble_eq_true rfl) (Nat.le_of_ble_eq_true rfl) dX6_goesOn_20
    · skip
      refine lv_iconst (v := 1) hx hb dX6_goesOn_15 (by decide) ?_
      refine lv_goto (tgt := 20) hx hb dX6_goesOn_16 (by decide) ?_
      exact oE_i hx hb hr (by decide) hlocks hP hD hS () [0] rfl (by decide) (Or.inr (⟨rfl, h_15⟩)) (Nat.le_of_ble_eq_true rfl) (Nat.le_of_ble_eq_true rfl) dX6_goesOn_20
  · skip
    subst h_16
    refine lv_if_ne (tgt := 19) hx hb dX6_goesOn_4 (by decide) (fun _ => ?_) (fun c => absurd c (by decide))
    refine lv_iconst (v := 0) hx hb dX6_goesOn_19 (by decide) ?_
    exact oE_i hx hb hr (by decide) hlocks hP hD hS () [0] rfl (by decide) (Or.inl rfl) (Nat.le_of_ble_eq_true rfl) (Nat.le_of_ble_eq_true rfl) dX6_goesOn_20
theorem dX6_sees_0 : decode cX6_sees 0 = .ok (.aload_n 0, 1) := by decide +kernel
theorem dX6_sees_1 : decode cX6_sees 1 = .ok (.getfield 51, 3) := by decide +kernel
theorem dX6_sees_4 : decode cX6_sees 4 = .ok (.iconst 2, 1) := by decide +kernel
theorem dX6_sees_5 : decode cX6_sees 5 = .ok (.if_icmp .ne 19, 3) := by decide +kernel
theorem dX6_sees_8 : decode cX6_sees 8 = .ok (.aload_n 0, 1) := by decide +kernel
theorem dX6_sees_9 : decode cX6_sees 9 = .ok (.getfield 44, 3) := by decide +kernel
theorem dX6_sees_12 : decode cX6_sees 12 = .ok (.aload_n 1, 1) := by decide +kernel
theorem dX6_sees_13 : decode cX6_sees 13 = .ok (.getfield 66, 3) := by decide +kernel
theorem dX6_sees_16 : decode cX6_sees 16 = .ok (.lcmp, 1) := by decide +kernel
theorem dX6_sees_17 : decode cX6_sees 17 = .ok (.ifCond .ne 7, 3) := by decide +kernel
theorem dX6_sees_20 : decode cX6_sees 20 = .ok (.iconst 1, 1) := by decide +kernel
theorem dX6_sees_21 : decode cX6_sees 21 = .ok (.goto 4, 3) := by decide +kernel
theorem dX6_sees_24 : decode cX6_sees 24 = .ok (.iconst 0, 1) := by decide +kernel
theorem dX6_sees_25 : decode cX6_sees 25 = .ok (.ireturn, 1) := by decide +kernel
set_option maxHeartbeats 4000000 in
set_option maxRecDepth 100000 in
theorem s_X6_sees (l : Launch) (D : va_G) (ca : Nat → ClassId) (ad : Nat → Nat) (wt : Nat) (sz : Nat) (h0 : Nat) (h0_bytes : Nat) (h0_length : Int32) (h0_faultKind : Int32) (h0_faultAt : Int32) (h0_letters : Int64) (h0_mostBytes : Int32) (h0_behind : Int32) (h0_at : Int32) (h0_kind : Int32) (h0_number : Int32) (kw1 : Nat) (i_h0_length : rg 0 940 h0_length) (i_h0_faultKind : rg 0 4 h0_faultKind) (i_h0_behind : rg 0 940 h0_behind) (hkw1 : kw1 < 26) : sMet l yX6_sees wsX6_sees ({ frames := 0, cells := 0, slots := 0, locals := 0 } : Room) [.ref h0, .ref (ad kw1)] D ca ad wt sz [(h0, .inr (6, [.ref h0_bytes, .int h0_length, .int h0_faultKind, .int h0_faultAt, .long h0_letters, .int h0_mostBytes, .int h0_behind, .int h0_at, .int h0_kind, .int h0_number]))] (oQi D (fun (r : Int32) (u : Unit) => ((r = 0)) ∨ ((r = 1) ∧ (rg 2 2 h0_kind))) (fun (u : Unit) => [(h0, .inr (6, [.ref h0_bytes, .int h0_length, .int h0_faultKind, .int h0_faultAt, .long h0_letters, .int h0_mostBytes, .int h0_behind, .int h0_at, .int h0_kind, .int h0_number]))])) 0 0 := by
  refine sM (cc := cX6_sees) (maxL := 2) (ret := (some .boolean)) (by decide) rfl (Nat.le_of_ble_eq_true rfl) [(0, .ref h0), (1, .ref (ad kw1))] rfl ?_
  intro p e s m below meth c A H locs ls hx hb hr hml hts hown hlocks hin hK hP hD hA hS hl hZ
  have hown : s.vm.findClass RX6 = some m.cls := hown
  have hE := hZ.2.2.2.2.2.1
  have k1 := hts (.fieldLink RX6 51 "LidCourt$Reader" "kind" "I") (by decide +kernel)
  have k2 : ∀ w ∈ wsX60, w ∈ wsX6_sees := fun _ h => List.mem_cons_of_mem _ (List.mem_append_right _ h)
  have k3 := hts (.fieldLink RX6 44 "LidCourt$Reader" "letters" "J") (by decide +kernel)
  have k4 := hts (.fieldLink RX6 66 "LidCourt$Word" "letters" "J") (by decide +kernel)
  refine lv_aload_n hx hb dX6_sees_0 rfl (lv_at hl 0 rfl) ?_
  refine va_get (D := D) (ci := 6) (v := .int h0_kind) (C := RX6) (T := TX6) (N := 10) hx hb hts k2 hown hK.1 hP 0 rfl rfl 8 (by decide) k1 (fun _ h9 => h9) rfl dX6_sees_1 ?_
  refine lv_iconst (v := 2) hx hb dX6_sees_4 (by decide) ?_
  refine lv_icmp_ne (tgt := 24) hx hb dX6_sees_5 (by decide) (fun c_15 => ?_) (fun c_15 => ?_)
  · skip
    refine lv_iconst (v := 0) hx hb dX6_sees_24 (by decide) ?_
    exact oE_i hx hb hr (by decide) hlocks hP hD hS () [0] rfl (by decide) (Or.inl rfl) (Nat.le_of_ble_eq_true rfl) (Nat.le_of_ble_eq_true rfl) dX6_sees_25
  · skip
    have o_16 : rl 0 h0_kind 2 := rl_eq c_15
    have h_17 : rg (-2147483648) 2 h0_kind := rl_x o_16 (rga h0_kind) (⟨by decide, by decide⟩ : rg 2 2 (2 : Int32)) (by decide) (by decide)
    have o_18 : rl 0 2 h0_kind := rl_eq c_15.symm
    have h_19 : rg 2 2 h0_kind := rl_y o_18 (⟨by decide, by decide⟩ : rg 2 2 (2 : Int32)) h_17 (by decide) (by decide)
    refine lv_aload_n hx hb dX6_sees_8 rfl (lv_at hl 0 rfl) ?_
    refine va_get (D := D) (ci := 6) (v := .long h0_letters) (C := RX6) (T := TX6) (N := 10) hx hb hts k2 hown hK.1 hP 0 rfl rfl 4 (by decide) k3 (fun _ h9 => h9) rfl dX6_sees_9 ?_
    refine lv_aload_n hx hb dX6_sees_12 rfl (lv_at hl 1 rfl) ?_
    refine va_getX hx hb hE (i := kw1) hkw1 hS hown k4 (fun _ h9 => h9) dX6_sees_13 ?_
    refine lv_topl (fun x_20 ex_20 => ?_)
    refine W.lcmp hx hb dX6_sees_16 ?_
    refine lv_topi (fun x_21 ex_21 => ?_)
    refine lv_if_ne (tgt := 24) hx hb dX6_sees_17 (by decide) (fun c_22 => ?_) (fun c_22 => ?_)
    · skip
      have h_23 : ¬ (h0_letters : Int64) = x_20 := cmp_nn ex_21 c_22
      refine lv_iconst (v := 0) hx hb dX6_sees_24 (by decide) ?_
      exact oE_i hx hb hr (by decide) hlocks hP hD hS () [0] rfl (by decide) (Or.inl rfl) (Nat.le_of_ble_eq_true rfl) (Nat.le_of_ble_eq_true rfl) dX6_sees_25
    · skip
      have o_24 : rl 0 x_21 0 := rl_eq c_22
      have h_25 : rg (-2147483648) 0 x_21 := rl_x o_24 (rga x_21) (⟨by decide, by decide⟩ : rg 0 0 (0 : Int32)) (by decide) (by decide)
      have o_26 : rl 0 0 x_21 := rl_eq c_22.symm
      have h_27 : rg 0 0 x_21 := rl_y o_26 (⟨by decide, by decide⟩ : rg 0 0 (0 : Int32)) h_25 (by decide) (by decide)
      have h_28 : (h0_letters : Int64) = x_20 := cmp_eq ex_21 c_22
      refine lv_iconst (v := 1) hx hb dX6_sees_20 (by decide) ?_
      refine lv_goto (tgt := 25) hx hb dX6_sees_21 (by decide) ?_
      exact oE_i hx hb hr (by decide) hlocks hP hD hS () [0] rfl (by decide) (Or.inr (⟨rfl, h_19⟩)) (Nat.le_of_ble_eq_true rfl) (Nat.le_of_ble_eq_true rfl) dX6_sees_25
theorem dX6_fail_0 : decode cX6_fail 0 = .ok (.aload_n 0, 1) := by decide +kernel
theorem dX6_fail_1 : decode cX6_fail 1 = .ok (.invokevirtual 34, 3) := by decide +kernel
theorem dX6_fail_4 : decode cX6_fail 4 = .ok (.ifCond .ne 26, 3) := by decide +kernel
theorem dX6_fail_30 : decode cX6_fail 30 = .ok (.return_, 1) := by decide +kernel
set_option maxRecDepth 20000 in
theorem ggX6_fail_X6_isBroken : GoodIn wsX6_fail wsX6_isBroken := goodIn_r _ [10, 1, 11, 12, 13, 14, 15, 16, 17, 18, 19, 20] rfl (by decide +kernel)
set_option maxRecDepth 20000 in
theorem gX6_fail_X6_isBroken : GoodIn wsX6_fail (wsV RX6 34 RX6 yX6_isBroken wsX6_isBroken) := goodIn_app (goodIn_of _ (by decide +kernel)) ggX6_fail_X6_isBroken
set_option maxHeartbeats 4000000 in
set_option maxRecDepth 100000 in
theorem s_X6_fail_br (l : Launch) (D : va_G) (ca : Nat → ClassId) (sz : Nat) (h0 : Nat) (a1 : Int32) (h0_bytes : Nat) (h0_length : Int32) (h0_faultKind : Int32) (h0_faultAt : Int32) (h0_letters : Int64) (h0_mostBytes : Int32) (h0_behind : Int32) (h0_at : Int32) (h0_kind : Int32) (h0_number : Int32) (i_a1 : rg 1 4 a1) (i_h0_length : rg 0 940 h0_length) (i_h0_faultKind : rg 1 4 h0_faultKind) (i_h0_behind : rg 0 940 h0_behind) : oMet l yX6_fail wsX6_fail ({ frames := 1, cells := 0, slots := 0, locals := 20 } : Room) [.ref h0, .int a1] D ca sz [(h0, .inr (6, [.ref h0_bytes, .int h0_length, .int h0_faultKind, .int h0_faultAt, .long h0_letters, .int h0_mostBytes, .int h0_behind, .int h0_at, .int h0_kind, .int h0_number]))] (oQv D (fun (u : Unit) => True) (fun (u : Unit) => [(h0, .inr (6, [.ref h0_bytes, .int h0_length, .int h0_faultKind, .int h0_faultAt, .long h0_letters, .int h0_mostBytes, .int h0_behind, .int h0_at, .int h0_kind, .int h0_number]))])) 0 0 := by
  refine oM (cc := cX6_fail) (maxL := 2) (ret := none) (by decide) rfl (Nat.le_of_ble_eq_true rfl) [(0, .ref h0), (1, .int a1)] rfl ?_
  intro p e s m below meth c A H locs ls hx hb hr hml hts hown hlocks hin hK hP hD hA hS hl
  have hown : s.vm.findClass RX6 = some m.cls := hown
  refine lv_aload_n hx hb dX6_fail_0 rfl (lv_at hl 0 rfl) ?_
  refine oC_i (Wc := [(h0, .inr (6, [.ref h0_bytes, .int h0_length, .int h0_faultKind, .int h0_faultAt, .long h0_letters, .int h0_mostBytes, .int h0_behind, .int h0_at, .int h0_kind, .int h0_number]))]) (Wr := []) (va_runV (As := []) (rest := []) ⟨hx, hb, hml, hown, hts⟩ (s_X6_isBroken l D ca H.size h0 h0_bytes h0_length h0_faultKind h0_faultAt h0_letters h0_mostBytes h0_behind h0_at h0_kind h0_number i_h0_length (rgw (lo := 0) (hi := 4) i_h0_faultKind (by decide) (by decide)) i_h0_behind) (cwV 0 hts gX6_fail_X6_isBroken rfl rfl rfl (by decide +kernel) ⟨Nat.le_of_ble_eq_true rfl, Nat.le_of_ble_eq_true rfl⟩) (oPV (C := RX6) hK hP hD [0] rfl (by decide) 0 rfl (ci := 6) rfl rfl) rfl rfl hl.1 rfl (lv_room (Nat.le_of_ble_eq_true rfl)) dX6_fail_1 ⟨Nat.le_of_ble_eq_true rfl, Nat.le_of_ble_eq_true rfl⟩) hP hD hS hA [0] [] rfl rfl (by decide) (by decide) (fun r_7 u H locs w_8 hP hD hS => ?_)
  obtain ⟨⟩ := u
  have hP : va_P D vwCl [(h0, .inr (6, [.ref h0_bytes, .int h0_length, .int h0_faultKind, .int h0_faultAt, .long h0_letters, .int h0_mostBytes, .int h0_behind, .int h0_at, .int h0_kind, .int h0_number]))] H := hP
  have hD : va_D A [(h0, .inr (6, [.ref h0_bytes, .int h0_length, .int h0_faultKind, .int h0_faultAt, .long h0_letters, .int h0_mostBytes, .int h0_behind, .int h0_at, .int h0_kind, .int h0_number]))] := hD
  try dsimp only at w_8
  rcases w_8 with ⟨h_9, h_10⟩ | ⟨h_11, h_12⟩
  · skip
    subst h_9
    exact (rg_no h_10 i_h0_faultKind (by decide)).elim
  · skip
    subst h_11
    refine lv_if_ne (tgt := 30) hx hb dX6_fail_4 (by decide) (fun _ => ?_) (fun c => absurd c (by decide))
    exact oE_v hx hb hr hlocks hP hD hS () [0] rfl (by decide) trivial (Nat.le_of_ble_eq_true rfl) (Nat.le_of_ble_eq_true rfl) dX6_fail_30
theorem dX6_fail_7 : decode cX6_fail 7 = .ok (.aload_n 0, 1) := by decide +kernel
theorem dX6_fail_8 : decode cX6_fail 8 = .ok (.iload_n 1, 1) := by decide +kernel
theorem dX6_fail_9 : decode cX6_fail 9 = .ok (.putfield 25, 3) := by decide +kernel
theorem dX6_fail_12 : decode cX6_fail 12 = .ok (.aload_n 0, 1) := by decide +kernel
theorem dX6_fail_13 : decode cX6_fail 13 = .ok (.aload_n 0, 1) := by decide +kernel
theorem dX6_fail_14 : decode cX6_fail 14 = .ok (.getfield 48, 3) := by decide +kernel
theorem dX6_fail_17 : decode cX6_fail 17 = .ok (.putfield 28, 3) := by decide +kernel
theorem dX6_fail_20 : decode cX6_fail 20 = .ok (.aload_n 0, 1) := by decide +kernel
theorem dX6_fail_21 : decode cX6_fail 21 = .ok (.iconst 0, 1) := by decide +kernel
theorem dX6_fail_22 : decode cX6_fail 22 = .ok (.putfield 51, 3) := by decide +kernel
theorem dX6_fail_25 : decode cX6_fail 25 = .ok (.aload_n 0, 1) := by decide +kernel
theorem dX6_fail_26 : decode cX6_fail 26 = .ok (.lconst 0, 1) := by decide +kernel
theorem dX6_fail_27 : decode cX6_fail 27 = .ok (.putfield 44, 3) := by decide +kernel
set_option maxHeartbeats 4000000 in
set_option maxRecDepth 100000 in
theorem s_X6_fail (l : Launch) (D : va_G) (ca : Nat → ClassId) (sz : Nat) (h0 : Nat) (a1 : Int32) (h0_bytes : Nat) (h0_length : Int32) (h0_faultKind : Int32) (h0_faultAt : Int32) (h0_letters : Int64) (h0_mostBytes : Int32) (h0_behind : Int32) (h0_at : Int32) (h0_kind : Int32) (h0_number : Int32) (i_a1 : rg 1 4 a1) (i_h0_length : rg 0 940 h0_length) (i_h0_faultKind : rg 0 4 h0_faultKind) (i_h0_behind : rg 0 940 h0_behind) : oMet l yX6_fail wsX6_fail ({ frames := 1, cells := 0, slots := 0, locals := 20 } : Room) [.ref h0, .int a1] D ca sz [(h0, .inr (6, [.ref h0_bytes, .int h0_length, .int h0_faultKind, .int h0_faultAt, .long h0_letters, .int h0_mostBytes, .int h0_behind, .int h0_at, .int h0_kind, .int h0_number]))] (oQv D (fun (u : Int32 × Int32 × Int64 × Int32) => (rg 1 4 u.1) ∧ (bk h0_faultKind u.1)) (fun (u : Int32 × Int32 × Int64 × Int32) => [(h0, .inr (6, [.ref h0_bytes, .int h0_length, .int u.1, .int u.2.1, .long u.2.2.1, .int h0_mostBytes, .int h0_behind, .int h0_at, .int u.2.2.2, .int h0_number]))])) 0 0 := by
  refine oM (cc := cX6_fail) (maxL := 2) (ret := none) (by decide) rfl (Nat.le_of_ble_eq_true rfl) [(0, .ref h0), (1, .int a1)] rfl ?_
  intro p e s m below meth c A H locs ls hx hb hr hml hts hown hlocks hin hK hP hD hA hS hl
  have hown : s.vm.findClass RX6 = some m.cls := hown
  have k1 := hts (.fieldLink RX6 25 "LidCourt$Reader" "faultKind" "I") (by decide +kernel)
  have k2 : ∀ w ∈ wsX60, w ∈ wsX6_fail := fun _ h => List.mem_cons_of_mem _ (List.mem_append_right _ h)
  have k3 := hts (.fieldLink RX6 48 "LidCourt$Reader" "at" "I") (by decide +kernel)
  have k4 := hts (.fieldLink RX6 28 "LidCourt$Reader" "faultAt" "I") (by decide +kernel)
  have k5 := hts (.fieldLink RX6 51 "LidCourt$Reader" "kind" "I") (by decide +kernel)
  have k6 := hts (.fieldLink RX6 44 "LidCourt$Reader" "letters" "J") (by decide +kernel)
  refine lv_aload_n hx hb dX6_fail_0 rfl (lv_at hl 0 rfl) ?_
  refine oC_i (Wc := [(h0, .inr (6, [.ref h0_bytes, .int h0_length, .int h0_faultKind, .int h0_faultAt, .long h0_letters, .int h0_mostBytes, .int h0_behind, .int h0_at, .int h0_kind, .int h0_number]))]) (Wr := []) (va_runV (As := []) (rest := []) ⟨hx, hb, hml, hown, hts⟩ (s_X6_isBroken l D ca H.size h0 h0_bytes h0_length h0_faultKind h0_faultAt h0_letters h0_mostBytes h0_behind h0_at h0_kind h0_number i_h0_length i_h0_faultKind i_h0_behind) (cwV 0 hts gX6_fail_X6_isBroken rfl rfl rfl (by decide +kernel) ⟨Nat.le_of_ble_eq_true rfl, Nat.le_of_ble_eq_true rfl⟩) (oPV (C := RX6) hK hP hD [0] rfl (by decide) 0 rfl (ci := 6) rfl rfl) rfl rfl hl.1 rfl (lv_room (Nat.le_of_ble_eq_true rfl)) dX6_fail_1 ⟨Nat.le_of_ble_eq_true rfl, Nat.le_of_ble_eq_true rfl⟩) hP hD hS hA [0] [] rfl rfl (by decide) (by decide) (fun r_7 u H locs w_8 hP hD hS => ?_)
  obtain ⟨⟩ := u
  have hP : va_P D vwCl [(h0, .inr (6, [.ref h0_bytes, .int h0_length, .int h0_faultKind, .int h0_faultAt, .long h0_letters, .int h0_mostBytes, .int h0_behind, .int h0_at, .int h0_kind, .int h0_number]))] H := hP
  have hD : va_D A [(h0, .inr (6, [.ref h0_bytes, .int h0_length, .int h0_faultKind, .int h0_faultAt, .long h0_letters, .int h0_mostBytes, .int h0_behind, .int h0_at, .int h0_kind, .int h0_number]))] := hD
  try dsimp only at w_8
  rcases w_8 with ⟨h_9, h_10⟩ | ⟨h_11, h_12⟩
  · skip
    subst h_9
    refine lv_if_ne (tgt := 30) hx hb dX6_fail_4 (by decide) (fun c => absurd (by decide) c) (fun _ => ?_)
    refine lv_aload_n hx hb dX6_fail_7 rfl (lv_at hl 0 rfl) ?_
    refine lv_iload_n hx hb dX6_fail_8 rfl (lv_at hl 1 rfl) ?_
    refine va_put (D := D) (ci := 6) (v := .int a1) (ty := .int) (C := RX6) (T := TX6) (N := 10) hx hb hts k2 tyX6 tyX6_ok nmX6 hown hK.1 hP hD hS 0 rfl rfl 2 (by decide) k1 (fun _ h9 => h9) rfl (by decide +kernel) rfl rfl (Nat.le_of_ble_eq_true rfl) dX6_fail_9 (fun H locs hP hD hS => ?_)
    have hP : va_P D vwCl [(h0, .inr (6, [.ref h0_bytes, .int h0_length, .int a1, .int h0_faultAt, .long h0_letters, .int h0_mostBytes, .int h0_behind, .int h0_at, .int h0_kind, .int h0_number]))] H := hP
    have hD : va_D A [(h0, .inr (6, [.ref h0_bytes, .int h0_length, .int a1, .int h0_faultAt, .long h0_letters, .int h0_mostBytes, .int h0_behind, .int h0_at, .int h0_kind, .int h0_number]))] := hD
    refine lv_aload_n hx hb dX6_fail_12 rfl (lv_at hl 0 rfl) ?_
    refine lv_aload_n hx hb dX6_fail_13 rfl (lv_at hl 0 rfl) ?_
    refine va_get (D := D) (ci := 6) (v := .int h0_at) (C := RX6) (T := TX6) (N := 10) hx hb hts k2 hown hK.1 hP 0 rfl rfl 7 (by decide) k3 (fun _ h9 => h9) rfl dX6_fail_14 ?_
    refine va_put (D := D) (ci := 6) (v := .int h0_at) (ty := .int) (C := RX6) (T := TX6) (N := 10) hx hb hts k2 tyX6 tyX6_ok nmX6 hown hK.1 hP hD hS 0 rfl rfl 3 (by decide) k4 (fun _ h9 => h9) rfl (by decide +kernel) rfl rfl (Nat.le_of_ble_eq_true rfl) dX6_fail_17 (fun H locs hP hD hS => ?_)
    have hP : va_P D vwCl [(h0, .inr (6, [.ref h0_bytes, .int h0_length, .int a1, .int h0_at, .long h0_letters, .int h0_mostBytes, .int h0_behind, .int h0_at, .int h0_kind, .int h0_number]))] H := hP
    have hD : va_D A [(h0, .inr (6, [.ref h0_bytes, .int h0_length, .int a1, .int h0_at, .long h0_letters, .int h0_mostBytes, .int h0_behind, .int h0_at, .int h0_kind, .int h0_number]))] := hD
    refine lv_aload_n hx hb dX6_fail_20 rfl (lv_at hl 0 rfl) ?_
    refine lv_iconst (v := 0) hx hb dX6_fail_21 (by decide) ?_
    refine va_put (D := D) (ci := 6) (v := .int 0) (ty := .int) (C := RX6) (T := TX6) (N := 10) hx hb hts k2 tyX6 tyX6_ok nmX6 hown hK.1 hP hD hS 0 rfl rfl 8 (by decide) k5 (fun _ h9 => h9) rfl (by decide +kernel) rfl rfl (Nat.le_of_ble_eq_true rfl) dX6_fail_22 (fun H locs hP hD hS => ?_)
    have hP : va_P D vwCl [(h0, .inr (6, [.ref h0_bytes, .int h0_length, .int a1, .int h0_at, .long h0_letters, .int h0_mostBytes, .int h0_behind, .int h0_at, .int 0, .int h0_number]))] H := hP
    have hD : va_D A [(h0, .inr (6, [.ref h0_bytes, .int h0_length, .int a1, .int h0_at, .long h0_letters, .int h0_mostBytes, .int h0_behind, .int h0_at, .int 0, .int h0_number]))] := hD
    refine lv_aload_n hx hb dX6_fail_25 rfl (lv_at hl 0 rfl) ?_
    refine lv_lconst (v := 0) hx hb dX6_fail_26 (by decide) ?_
    refine va_put (D := D) (ci := 6) (v := .long 0) (ty := .long) (C := RX6) (T := TX6) (N := 10) hx hb hts k2 tyX6 tyX6_ok nmX6 hown hK.1 hP hD hS 0 rfl rfl 4 (by decide) k6 (fun _ h9 => h9) rfl (by decide +kernel) rfl rfl (Nat.le_of_ble_eq_true rfl) dX6_fail_27 (fun H locs hP hD hS => ?_)
    have hP : va_P D vwCl [(h0, .inr (6, [.ref h0_bytes, .int h0_length, .int a1, .int h0_at, .long 0, .int h0_mostBytes, .int h0_behind, .int h0_at, .int 0, .int h0_number]))] H := hP
    have hD : va_D A [(h0, .inr (6, [.ref h0_bytes, .int h0_length, .int a1, .int h0_at, .long 0, .int h0_mostBytes, .int h0_behind, .int h0_at, .int 0, .int h0_number]))] := hD
    exact oE_v hx hb hr hlocks hP hD hS (a1, h0_at, 0, 0) [0] rfl (by decide) ⟨i_a1, (bk_1 i_a1 (by decide))⟩ (Nat.le_of_ble_eq_true rfl) (Nat.le_of_ble_eq_true rfl) dX6_fail_30
  · skip
    subst h_11
    refine lv_if_ne (tgt := 30) hx hb dX6_fail_4 (by decide) (fun _ => ?_) (fun c => absurd c (by decide))
    exact oE_v hx hb hr hlocks hP hD hS (h0_faultKind, h0_faultAt, h0_letters, h0_kind) [0] rfl (by decide) ⟨h_12, (bk_rf _)⟩ (Nat.le_of_ble_eq_true rfl) (Nat.le_of_ble_eq_true rfl) dX6_fail_30
theorem dX5_placeOf_0 : decode cX5_placeOf 0 = .ok (.iconst 0, 1) := by decide +kernel
theorem dX5_placeOf_1 : decode cX5_placeOf 1 = .ok (.istore 4, 2) := by decide +kernel
theorem dX5_placeOf_3 : decode cX5_placeOf 3 = .ok (.iload 4, 2) := by decide +kernel
theorem dX5_placeOf_5 : decode cX5_placeOf 5 = .ok (.iload_n 1, 1) := by decide +kernel
theorem dX5_placeOf_6 : decode cX5_placeOf 6 = .ok (.if_icmp .ge 28, 3) := by decide +kernel
theorem dX5_placeOf_9 : decode cX5_placeOf 9 = .ok (.iload 4, 2) := by decide +kernel
theorem dX5_placeOf_11 : decode cX5_placeOf 11 = .ok (.aload_n 0, 1) := by decide +kernel
theorem dX5_placeOf_12 : decode cX5_placeOf 12 = .ok (.arraylength, 1) := by decide +kernel
theorem dX5_placeOf_13 : decode cX5_placeOf 13 = .ok (.if_icmp .ge 21, 3) := by decide +kernel
theorem dX5_placeOf_16 : decode cX5_placeOf 16 = .ok (.aload_n 0, 1) := by decide +kernel
theorem dX5_placeOf_17 : decode cX5_placeOf 17 = .ok (.iload 4, 2) := by decide +kernel
theorem dX5_placeOf_19 : decode cX5_placeOf 19 = .ok (.laload, 1) := by decide +kernel
theorem dX5_placeOf_20 : decode cX5_placeOf 20 = .ok (.lload_n 2, 1) := by decide +kernel
theorem dX5_placeOf_21 : decode cX5_placeOf 21 = .ok (.lcmp, 1) := by decide +kernel
theorem dX5_placeOf_22 : decode cX5_placeOf 22 = .ok (.ifCond .ne 6, 3) := by decide +kernel
theorem dX5_placeOf_25 : decode cX5_placeOf 25 = .ok (.iload 4, 2) := by decide +kernel
theorem dX5_placeOf_27 : decode cX5_placeOf 27 = .ok (.ireturn, 1) := by decide +kernel
theorem dX5_placeOf_28 : decode cX5_placeOf 28 = .ok (.iinc 4 1, 3) := by decide +kernel
theorem dX5_placeOf_31 : decode cX5_placeOf 31 = .ok (.goto (-28), 3) := by decide +kernel
theorem dX5_placeOf_34 : decode cX5_placeOf 34 = .ok (.iconst (-1), 1) := by decide +kernel
theorem dX5_placeOf_35 : decode cX5_placeOf 35 = .ok (.ireturn, 1) := by decide +kernel
set_option maxHeartbeats 4000000 in
set_option maxRecDepth 100000 in
theorem s_X5_placeOf_10 (l : Launch) (D : va_G) (ca : Nat → ClassId) (sz : Nat) (r1 : Nat) (a2 : Int32) (a3 : Int64) (F_r1 : Nat → Int64) (i_a2 : rg 0 10 a2) : oMet l yX5_placeOf wsX5_placeOf ({ frames := 0, cells := 0, slots := 0, locals := 0 } : Room) [.ref r1, .int a2, .long a3] D ca sz [(aJ ca r1 10 F_r1)] (oQi D (fun (r : Int32) (u : Unit) => (rg (-1) 9 r)) (fun (u : Unit) => [(aJ ca r1 10 F_r1)])) 0 0 := by
  refine oM (cc := cX5_placeOf) (maxL := 5) (ret := (some .int)) (by decide) rfl (Nat.le_of_ble_eq_true rfl) [(0, .ref r1), (1, .int a2), (2, .long a3)] rfl ?_
  intro p e s m below meth c A H locs ls hx hb hr hml hts hown hlocks hin hK hP hD hA hS hl
  have hown : s.vm.findClass RX5 = some m.cls := hown
  have J3_66 : ∀ (n : Nat) (y3_0 : Int32), True → rg 0 10 y3_0 → 10 < y3_0.toInt + (n : Int) → ∀ (H : Heap) (locs : List Loc) (ls : Array Slot), va_P D vwCl [(aJ ca r1 10 F_r1)] H → va_D A [(aJ ca r1 10 F_r1)] → va_S A s.heap H locs → lv_has ls 5 [(0, .ref r1), (1, .int a2), (2, .long a3), (4, .int y3_0)] → W p l e ({ frames := 0, cells := 0, slots := 0, locals := 0 } : Room) s m ([.ref r1, .int a2, .long a3] : List Value).toArray below meth c H locs 0 0 (MQ below ((oQi D (fun (r : Int32) (u : Unit) => (rg (-1) 9 r)) (fun (u : Unit) => [(aJ ca r1 10 F_r1)])) A) ([.ref r1, .int a2, .long a3] : List Value).toArray s 0 0 A) (F0 m 3 ls []) := by
    intro n
    induction n with
    | zero => intro y3_0 _ hy3_0 hn; exact absurd hn (by have q9 := hy3_0.2; omega)
    | succ n ih =>
      intro y3_0 _ hy3_0 hn H locs ls hP hD hS hl
      refine lv_iload hx hb dX5_placeOf_3 (lv_at hl 3 rfl) ?_
      refine lv_iload_n hx hb dX5_placeOf_5 rfl (lv_at hl 1 rfl) ?_
      refine lv_icmp_ge (tgt := 34) hx hb dX5_placeOf_6 (by decide) (fun c_84 => ?_) (fun c_84 => ?_)
      · skip
        have o_85 : rl 0 a2 y3_0 := rl_le c_84
        refine lv_iconst (v := (-1)) hx hb dX5_placeOf_34 (by decide) ?_
        exact oE_i hx hb hr rfl hlocks hP hD hS () [0] rfl (by decide) (⟨by decide, by decide⟩ : rg (-1) 9 ((-1) : Int32)) (Nat.le_of_ble_eq_true rfl) (Nat.le_of_ble_eq_true rfl) dX5_placeOf_35
      · skip
        have o_86 : rl 1 y3_0 a2 := rl_nle c_84
        have h_87 : rg 0 9 y3_0 := rl_x o_86 hy3_0 i_a2 (by decide) (by decide)
        have h_88 : rg 1 10 a2 := rl_y o_86 hy3_0 i_a2 (by decide) (by decide)
        refine lv_iload hx hb dX5_placeOf_9 (lv_at hl 3 rfl) ?_
        refine lv_aload_n hx hb dX5_placeOf_11 rfl (lv_at hl 0 rfl) ?_
        refine va_alen hx hb hK.1 hP 0 1 rfl rfl (v := 10) rfl dX5_placeOf_12 ?_
        refine lv_icmp_ge (tgt := 34) hx hb dX5_placeOf_13 (by decide) (fun c => absurd c (no_le (⟨by decide, by decide⟩ : rg 10 10 (10 : Int32)) h_87 (by decide))) (fun _ => ?_)
        refine lv_aload_n hx hb dX5_placeOf_16 rfl (lv_at hl 0 rfl) ?_
        refine lv_iload hx hb dX5_placeOf_17 (lv_at hl 3 rfl) ?_
        refine va_lald hx hb hK.1 hP 0 1 rfl rfl (rg_in h_87 (by decide) (by decide)) dX5_placeOf_19 ?_
        refine lv_topl (fun x_89 ex_89 => ?_)
        refine lv_lload_n hx hb dX5_placeOf_20 rfl (lv_at hl 2 rfl) ?_
        refine W.lcmp hx hb dX5_placeOf_21 ?_
        refine lv_topi (fun x_90 ex_90 => ?_)
        refine lv_if_ne (tgt := 28) hx hb dX5_placeOf_22 (by decide) (fun c_91 => ?_) (fun c_91 => ?_)
        · skip
          have h_92 : ¬ (x_89 : Int64) = a3 := cmp_nn ex_90 c_91
          obtain ⟨x_93, ex_93⟩ : ∃ y : Int32, y = y3_0 + 1 := ⟨_, rfl⟩
          have h_94 : rg 1 10 x_93 := by rw [ex_93]; exact rg_add h_87 (⟨by decide, by decide⟩ : rg 1 1 (1 : Int32)) (by decide) (by decide) (by decide) (by decide)
          have l_95 : lq x_93.toInt (y3_0.toInt + 1) := lqm (by rw [ex_93]; have q := tadd h_87 (⟨by decide, by decide⟩ : rg 1 1 (1 : Int32)) (by decide) (by decide); have r1 := lqe (lqm (by decide) : lq (1 : Int32).toInt 1); omega)
          refine lv_iinc (v := x_93) (lv' := [(4, .int x_93), (0, .ref r1), (1, .int a2), (2, .long a3)]) hx hb dX5_placeOf_28 hl (k := 3) rfl (by rw [ex_93]; rfl) (by decide) rfl (fun ls hl => ?_)
          refine lv_goto (tgt := 3) hx hb dX5_placeOf_31 (by decide) ?_
          exact ih x_93 trivial (rgw (lo := 0) (hi := 10) h_94 (by decide) (by decide)) (by have q0 := lqe l_95; omega) H locs ls (oPsub hP [0] rfl) (hD.sub [0] (by decide) rfl) hS (lv_sub hl [1, 2, 3, 0] rfl)
        · skip
          have o_96 : rl 0 x_90 0 := rl_eq c_91
          have h_97 : rg (-2147483648) 0 x_90 := rl_x o_96 (rga x_90) (⟨by decide, by decide⟩ : rg 0 0 (0 : Int32)) (by decide) (by decide)
          have o_98 : rl 0 0 x_90 := rl_eq c_91.symm
          have h_99 : rg 0 0 x_90 := rl_y o_98 (⟨by decide, by decide⟩ : rg 0 0 (0 : Int32)) h_97 (by decide) (by decide)
          have h_100 : (x_89 : Int64) = a3 := cmp_eq ex_90 c_91
          refine lv_iload hx hb dX5_placeOf_25 (lv_at hl 3 rfl) ?_
          exact oE_i hx hb hr rfl hlocks hP hD hS () [0] rfl (by decide) (rgw (lo := (-1)) (hi := 9) h_87 (by decide) (by decide)) (Nat.le_of_ble_eq_true rfl) (Nat.le_of_ble_eq_true rfl) dX5_placeOf_27
  refine lv_iconst (v := 0) hx hb dX5_placeOf_0 (by decide) ?_
  refine lv_istore (lv' := [(4, .int 0), (0, .ref r1), (1, .int a2), (2, .long a3)]) hx hb dX5_placeOf_1 hl (by decide) rfl (fun ls hl => ?_)
  exact J3_66 11 0 trivial (⟨by decide, by decide⟩ : rg 0 10 (0 : Int32)) (by have q0 := (⟨by decide, by decide⟩ : rg 0 0 (0 : Int32)).1; omega) H locs ls (oPsub hP [0] rfl) (hD.sub [0] (by decide) rfl) hS (lv_sub hl [1, 2, 3, 0] rfl)
set_option maxHeartbeats 4000000 in
set_option maxRecDepth 100000 in
theorem s_X5_placeOf_4 (l : Launch) (D : va_G) (ca : Nat → ClassId) (sz : Nat) (r1 : Nat) (a2 : Int32) (a3 : Int64) (F_r1 : Nat → Int64) (i_a2 : rg 0 4 a2) : oMet l yX5_placeOf wsX5_placeOf ({ frames := 0, cells := 0, slots := 0, locals := 0 } : Room) [.ref r1, .int a2, .long a3] D ca sz [(aJ ca r1 4 F_r1)] (oQi D (fun (r : Int32) (u : Unit) => (rg (-1) 3 r)) (fun (u : Unit) => [(aJ ca r1 4 F_r1)])) 0 0 := by
  refine oM (cc := cX5_placeOf) (maxL := 5) (ret := (some .int)) (by decide) rfl (Nat.le_of_ble_eq_true rfl) [(0, .ref r1), (1, .int a2), (2, .long a3)] rfl ?_
  intro p e s m below meth c A H locs ls hx hb hr hml hts hown hlocks hin hK hP hD hA hS hl
  have hown : s.vm.findClass RX5 = some m.cls := hown
  have J3_66 : ∀ (n : Nat) (y3_0 : Int32), True → rg 0 4 y3_0 → 4 < y3_0.toInt + (n : Int) → ∀ (H : Heap) (locs : List Loc) (ls : Array Slot), va_P D vwCl [(aJ ca r1 4 F_r1)] H → va_D A [(aJ ca r1 4 F_r1)] → va_S A s.heap H locs → lv_has ls 5 [(0, .ref r1), (1, .int a2), (2, .long a3), (4, .int y3_0)] → W p l e ({ frames := 0, cells := 0, slots := 0, locals := 0 } : Room) s m ([.ref r1, .int a2, .long a3] : List Value).toArray below meth c H locs 0 0 (MQ below ((oQi D (fun (r : Int32) (u : Unit) => (rg (-1) 3 r)) (fun (u : Unit) => [(aJ ca r1 4 F_r1)])) A) ([.ref r1, .int a2, .long a3] : List Value).toArray s 0 0 A) (F0 m 3 ls []) := by
    intro n
    induction n with
    | zero => intro y3_0 _ hy3_0 hn; exact absurd hn (by have q9 := hy3_0.2; omega)
    | succ n ih =>
      intro y3_0 _ hy3_0 hn H locs ls hP hD hS hl
      refine lv_iload hx hb dX5_placeOf_3 (lv_at hl 3 rfl) ?_
      refine lv_iload_n hx hb dX5_placeOf_5 rfl (lv_at hl 1 rfl) ?_
      refine lv_icmp_ge (tgt := 34) hx hb dX5_placeOf_6 (by decide) (fun c_84 => ?_) (fun c_84 => ?_)
      · skip
        have o_85 : rl 0 a2 y3_0 := rl_le c_84
        refine lv_iconst (v := (-1)) hx hb dX5_placeOf_34 (by decide) ?_
        exact oE_i hx hb hr rfl hlocks hP hD hS () [0] rfl (by decide) (⟨by decide, by decide⟩ : rg (-1) 3 ((-1) : Int32)) (Nat.le_of_ble_eq_true rfl) (Nat.le_of_ble_eq_true rfl) dX5_placeOf_35
      · skip
        have o_86 : rl 1 y3_0 a2 := rl_nle c_84
        have h_87 : rg 0 3 y3_0 := rl_x o_86 hy3_0 i_a2 (by decide) (by decide)
        have h_88 : rg 1 4 a2 := rl_y o_86 hy3_0 i_a2 (by decide) (by decide)
        refine lv_iload hx hb dX5_placeOf_9 (lv_at hl 3 rfl) ?_
        refine lv_aload_n hx hb dX5_placeOf_11 rfl (lv_at hl 0 rfl) ?_
        refine va_alen hx hb hK.1 hP 0 1 rfl rfl (v := 4) rfl dX5_placeOf_12 ?_
        refine lv_icmp_ge (tgt := 34) hx hb dX5_placeOf_13 (by decide) (fun c => absurd c (no_le (⟨by decide, by decide⟩ : rg 4 4 (4 : Int32)) h_87 (by decide))) (fun _ => ?_)
        refine lv_aload_n hx hb dX5_placeOf_16 rfl (lv_at hl 0 rfl) ?_
        refine lv_iload hx hb dX5_placeOf_17 (lv_at hl 3 rfl) ?_
        refine va_lald hx hb hK.1 hP 0 1 rfl rfl (rg_in h_87 (by decide) (by decide)) dX5_placeOf_19 ?_
        refine lv_topl (fun x_89 ex_89 => ?_)
        refine lv_lload_n hx hb dX5_placeOf_20 rfl (lv_at hl 2 rfl) ?_
        refine W.lcmp hx hb dX5_placeOf_21 ?_
        refine lv_topi (fun x_90 ex_90 => ?_)
        refine lv_if_ne (tgt := 28) hx hb dX5_placeOf_22 (by decide) (fun c_91 => ?_) (fun c_91 => ?_)
        · skip
          have h_92 : ¬ (x_89 : Int64) = a3 := cmp_nn ex_90 c_91
          obtain ⟨x_93, ex_93⟩ : ∃ y : Int32, y = y3_0 + 1 := ⟨_, rfl⟩
          have h_94 : rg 1 4 x_93 := by rw [ex_93]; exact rg_add h_87 (⟨by decide, by decide⟩ : rg 1 1 (1 : Int32)) (by decide) (by decide) (by decide) (by decide)
          have l_95 : lq x_93.toInt (y3_0.toInt + 1) := lqm (by rw [ex_93]; have q := tadd h_87 (⟨by decide, by decide⟩ : rg 1 1 (1 : Int32)) (by decide) (by decide); have r1 := lqe (lqm (by decide) : lq (1 : Int32).toInt 1); omega)
          refine lv_iinc (v := x_93) (lv' := [(4, .int x_93), (0, .ref r1), (1, .int a2), (2, .long a3)]) hx hb dX5_placeOf_28 hl (k := 3) rfl (by rw [ex_93]; rfl) (by decide) rfl (fun ls hl => ?_)
          refine lv_goto (tgt := 3) hx hb dX5_placeOf_31 (by decide) ?_
          exact ih x_93 trivial (rgw (lo := 0) (hi := 4) h_94 (by decide) (by decide)) (by have q0 := lqe l_95; omega) H locs ls (oPsub hP [0] rfl) (hD.sub [0] (by decide) rfl) hS (lv_sub hl [1, 2, 3, 0] rfl)
        · skip
          have o_96 : rl 0 x_90 0 := rl_eq c_91
          have h_97 : rg (-2147483648) 0 x_90 := rl_x o_96 (rga x_90) (⟨by decide, by decide⟩ : rg 0 0 (0 : Int32)) (by decide) (by decide)
          have o_98 : rl 0 0 x_90 := rl_eq c_91.symm
          have h_99 : rg 0 0 x_90 := rl_y o_98 (⟨by decide, by decide⟩ : rg 0 0 (0 : Int32)) h_97 (by decide) (by decide)
          have h_100 : (x_89 : Int64) = a3 := cmp_eq ex_90 c_91
          refine lv_iload hx hb dX5_placeOf_25 (lv_at hl 3 rfl) ?_
          exact oE_i hx hb hr rfl hlocks hP hD hS () [0] rfl (by decide) (rgw (lo := (-1)) (hi := 3) h_87 (by decide) (by decide)) (Nat.le_of_ble_eq_true rfl) (Nat.le_of_ble_eq_true rfl) dX5_placeOf_27
  refine lv_iconst (v := 0) hx hb dX5_placeOf_0 (by decide) ?_
  refine lv_istore (lv' := [(4, .int 0), (0, .ref r1), (1, .int a2), (2, .long a3)]) hx hb dX5_placeOf_1 hl (by decide) rfl (fun ls hl => ?_)
  exact J3_66 5 0 trivial (⟨by decide, by decide⟩ : rg 0 4 (0 : Int32)) (by have q0 := (⟨by decide, by decide⟩ : rg 0 0 (0 : Int32)).1; omega) H locs ls (oPsub hP [0] rfl) (hD.sub [0] (by decide) rfl) hS (lv_sub hl [1, 2, 3, 0] rfl)
set_option maxHeartbeats 4000000 in
set_option maxRecDepth 100000 in
theorem s_X5_placeOf_5 (l : Launch) (D : va_G) (ca : Nat → ClassId) (sz : Nat) (r1 : Nat) (a2 : Int32) (a3 : Int64) (F_r1 : Nat → Int64) (i_a2 : rg 0 5 a2) : oMet l yX5_placeOf wsX5_placeOf ({ frames := 0, cells := 0, slots := 0, locals := 0 } : Room) [.ref r1, .int a2, .long a3] D ca sz [(aJ ca r1 5 F_r1)] (oQi D (fun (r : Int32) (u : Unit) => (rg (-1) 4 r)) (fun (u : Unit) => [(aJ ca r1 5 F_r1)])) 0 0 := by
  refine oM (cc := cX5_placeOf) (maxL := 5) (ret := (some .int)) (by decide) rfl (Nat.le_of_ble_eq_true rfl) [(0, .ref r1), (1, .int a2), (2, .long a3)] rfl ?_
  intro p e s m below meth c A H locs ls hx hb hr hml hts hown hlocks hin hK hP hD hA hS hl
  have hown : s.vm.findClass RX5 = some m.cls := hown
  have J3_66 : ∀ (n : Nat) (y3_0 : Int32), True → rg 0 5 y3_0 → 5 < y3_0.toInt + (n : Int) → ∀ (H : Heap) (locs : List Loc) (ls : Array Slot), va_P D vwCl [(aJ ca r1 5 F_r1)] H → va_D A [(aJ ca r1 5 F_r1)] → va_S A s.heap H locs → lv_has ls 5 [(0, .ref r1), (1, .int a2), (2, .long a3), (4, .int y3_0)] → W p l e ({ frames := 0, cells := 0, slots := 0, locals := 0 } : Room) s m ([.ref r1, .int a2, .long a3] : List Value).toArray below meth c H locs 0 0 (MQ below ((oQi D (fun (r : Int32) (u : Unit) => (rg (-1) 4 r)) (fun (u : Unit) => [(aJ ca r1 5 F_r1)])) A) ([.ref r1, .int a2, .long a3] : List Value).toArray s 0 0 A) (F0 m 3 ls []) := by
    intro n
    induction n with
    | zero => intro y3_0 _ hy3_0 hn; exact absurd hn (by have q9 := hy3_0.2; omega)
    | succ n ih =>
      intro y3_0 _ hy3_0 hn H locs ls hP hD hS hl
      refine lv_iload hx hb dX5_placeOf_3 (lv_at hl 3 rfl) ?_
      refine lv_iload_n hx hb dX5_placeOf_5 rfl (lv_at hl 1 rfl) ?_
      refine lv_icmp_ge (tgt := 34) hx hb dX5_placeOf_6 (by decide) (fun c_84 => ?_) (fun c_84 => ?_)
      · skip
        have o_85 : rl 0 a2 y3_0 := rl_le c_84
        refine lv_iconst (v := (-1)) hx hb dX5_placeOf_34 (by decide) ?_
        exact oE_i hx hb hr rfl hlocks hP hD hS () [0] rfl (by decide) (⟨by decide, by decide⟩ : rg (-1) 4 ((-1) : Int32)) (Nat.le_of_ble_eq_true rfl) (Nat.le_of_ble_eq_true rfl) dX5_placeOf_35
      · skip
        have o_86 : rl 1 y3_0 a2 := rl_nle c_84
        have h_87 : rg 0 4 y3_0 := rl_x o_86 hy3_0 i_a2 (by decide) (by decide)
        have h_88 : rg 1 5 a2 := rl_y o_86 hy3_0 i_a2 (by decide) (by decide)
        refine lv_iload hx hb dX5_placeOf_9 (lv_at hl 3 rfl) ?_
        refine lv_aload_n hx hb dX5_placeOf_11 rfl (lv_at hl 0 rfl) ?_
        refine va_alen hx hb hK.1 hP 0 1 rfl rfl (v := 5) rfl dX5_placeOf_12 ?_
        refine lv_icmp_ge (tgt := 34) hx hb dX5_placeOf_13 (by decide) (fun c => absurd c (no_le (⟨by decide, by decide⟩ : rg 5 5 (5 : Int32)) h_87 (by decide))) (fun _ => ?_)
        refine lv_aload_n hx hb dX5_placeOf_16 rfl (lv_at hl 0 rfl) ?_
        refine lv_iload hx hb dX5_placeOf_17 (lv_at hl 3 rfl) ?_
        refine va_lald hx hb hK.1 hP 0 1 rfl rfl (rg_in h_87 (by decide) (by decide)) dX5_placeOf_19 ?_
        refine lv_topl (fun x_89 ex_89 => ?_)
        refine lv_lload_n hx hb dX5_placeOf_20 rfl (lv_at hl 2 rfl) ?_
        refine W.lcmp hx hb dX5_placeOf_21 ?_
        refine lv_topi (fun x_90 ex_90 => ?_)
        refine lv_if_ne (tgt := 28) hx hb dX5_placeOf_22 (by decide) (fun c_91 => ?_) (fun c_91 => ?_)
        · skip
          have h_92 : ¬ (x_89 : Int64) = a3 := cmp_nn ex_90 c_91
          obtain ⟨x_93, ex_93⟩ : ∃ y : Int32, y = y3_0 + 1 := ⟨_, rfl⟩
          have h_94 : rg 1 5 x_93 := by rw [ex_93]; exact rg_add h_87 (⟨by decide, by decide⟩ : rg 1 1 (1 : Int32)) (by decide) (by decide) (by decide) (by decide)
          have l_95 : lq x_93.toInt (y3_0.toInt + 1) := lqm (by rw [ex_93]; have q := tadd h_87 (⟨by decide, by decide⟩ : rg 1 1 (1 : Int32)) (by decide) (by decide); have r1 := lqe (lqm (by decide) : lq (1 : Int32).toInt 1); omega)
          refine lv_iinc (v := x_93) (lv' := [(4, .int x_93), (0, .ref r1), (1, .int a2), (2, .long a3)]) hx hb dX5_placeOf_28 hl (k := 3) rfl (by rw [ex_93]; rfl) (by decide) rfl (fun ls hl => ?_)
          refine lv_goto (tgt := 3) hx hb dX5_placeOf_31 (by decide) ?_
          exact ih x_93 trivial (rgw (lo := 0) (hi := 5) h_94 (by decide) (by decide)) (by have q0 := lqe l_95; omega) H locs ls (oPsub hP [0] rfl) (hD.sub [0] (by decide) rfl) hS (lv_sub hl [1, 2, 3, 0] rfl)
        · skip
          have o_96 : rl 0 x_90 0 := rl_eq c_91
          have h_97 : rg (-2147483648) 0 x_90 := rl_x o_96 (rga x_90) (⟨by decide, by decide⟩ : rg 0 0 (0 : Int32)) (by decide) (by decide)
          have o_98 : rl 0 0 x_90 := rl_eq c_91.symm
          have h_99 : rg 0 0 x_90 := rl_y o_98 (⟨by decide, by decide⟩ : rg 0 0 (0 : Int32)) h_97 (by decide) (by decide)
          have h_100 : (x_89 : Int64) = a3 := cmp_eq ex_90 c_91
          refine lv_iload hx hb dX5_placeOf_25 (lv_at hl 3 rfl) ?_
          exact oE_i hx hb hr rfl hlocks hP hD hS () [0] rfl (by decide) (rgw (lo := (-1)) (hi := 4) h_87 (by decide) (by decide)) (Nat.le_of_ble_eq_true rfl) (Nat.le_of_ble_eq_true rfl) dX5_placeOf_27
  refine lv_iconst (v := 0) hx hb dX5_placeOf_0 (by decide) ?_
  refine lv_istore (lv' := [(4, .int 0), (0, .ref r1), (1, .int a2), (2, .long a3)]) hx hb dX5_placeOf_1 hl (by decide) rfl (fun ls hl => ?_)
  exact J3_66 6 0 trivial (⟨by decide, by decide⟩ : rg 0 5 (0 : Int32)) (by have q0 := (⟨by decide, by decide⟩ : rg 0 0 (0 : Int32)).1; omega) H locs ls (oPsub hP [0] rfl) (hD.sub [0] (by decide) rfl) hS (lv_sub hl [1, 2, 3, 0] rfl)
theorem dX5_jurorNamed_0 : decode cX5_jurorNamed 0 = .ok (.aload_n 0, 1) := by decide +kernel
theorem dX5_jurorNamed_1 : decode cX5_jurorNamed 1 = .ok (.getfield 9, 3) := by decide +kernel
theorem dX5_jurorNamed_4 : decode cX5_jurorNamed 4 = .ok (.aload_n 0, 1) := by decide +kernel
theorem dX5_jurorNamed_5 : decode cX5_jurorNamed 5 = .ok (.getfield 43, 3) := by decide +kernel
theorem dX5_jurorNamed_8 : decode cX5_jurorNamed 8 = .ok (.lload_n 1, 1) := by decide +kernel
theorem dX5_jurorNamed_9 : decode cX5_jurorNamed 9 = .ok (.invokestatic 68, 3) := by decide +kernel
theorem dX5_jurorNamed_12 : decode cX5_jurorNamed 12 = .ok (.ireturn, 1) := by decide +kernel
set_option maxRecDepth 20000 in
theorem ggX5_jurorNamed_X5_placeOf : GoodIn wsX5_jurorNamed wsX5_placeOf := goodIn_r _ [6] rfl (by decide +kernel)
set_option maxRecDepth 20000 in
theorem gX5_jurorNamed_X5_placeOf : GoodIn wsX5_jurorNamed (va_wsS RX5 68 yX5_placeOf wsX5_placeOf) := goodIn_app (goodIn_of _ (by decide +kernel)) ggX5_jurorNamed_X5_placeOf
set_option maxHeartbeats 4000000 in
set_option maxRecDepth 100000 in
theorem s_X5_jurorNamed (l : Launch) (D : va_G) (ca : Nat → ClassId) (sz : Nat) (h0 : Nat) (a1 : Int64) (h0_jurors : Int32) (h0_floors : Int32) (h0_cases : Int32) (h0_one : Int32) (h0_dent : Int32) (h0_seated : Int32) (h0_jurorName : Nat) (h0_floorName : Nat) (h0_caseName : Nat) (h0_pitch : Nat) (h0_length : Nat) (h0_hands : Nat) (h0_tune : Nat) (h0_dull : Nat) (h0_caseFloor : Nat) (h0_tuned : Nat) (F_h0_jurorName : Nat → Int64) (i_h0_jurors : rg 0 10 h0_jurors) (i_h0_floors : rg 0 4 h0_floors) (i_h0_cases : rg 0 5 h0_cases) (i_h0_seated : rg 0 1023 h0_seated) : oMet l yX5_jurorNamed wsX5_jurorNamed ({ frames := 1, cells := 0, slots := 0, locals := 24 } : Room) [.ref h0, .long a1] D ca sz [(h0, .inr (5, [.int h0_jurors, .int h0_floors, .int h0_cases, .int h0_one, .int h0_dent, .int h0_seated, .ref h0_jurorName, .ref h0_floorName, .ref h0_caseName, .ref h0_pitch, .ref h0_length, .ref h0_hands, .ref h0_tune, .ref h0_dull, .ref h0_caseFloor, .ref h0_tuned])), (aJ ca h0_jurorName 10 F_h0_jurorName)] (oQi D (fun (r : Int32) (u : Unit) => (rg (-1) 9 r)) (fun (u : Unit) => [(h0, .inr (5, [.int h0_jurors, .int h0_floors, .int h0_cases, .int h0_one, .int h0_dent, .int h0_seated, .ref h0_jurorName, .ref h0_floorName, .ref h0_caseName, .ref h0_pitch, .ref h0_length, .ref h0_hands, .ref h0_tune, .ref h0_dull, .ref h0_caseFloor, .ref h0_tuned])), (aJ ca h0_jurorName 10 F_h0_jurorName)])) 0 0 := by
  refine oM (cc := cX5_jurorNamed) (maxL := 3) (ret := (some .int)) (by decide) rfl (Nat.le_of_ble_eq_true rfl) [(0, .ref h0), (1, .long a1)] rfl ?_
  intro p e s m below meth c A H locs ls hx hb hr hml hts hown hlocks hin hK hP hD hA hS hl
  have hown : s.vm.findClass RX5 = some m.cls := hown
  have k1 := hts (.fieldLink RX5 9 "LidCourt$Law" "jurorName" "[J") (by decide +kernel)
  have k2 : ∀ w ∈ wsX50, w ∈ wsX5_jurorNamed := fun _ h => List.mem_cons_of_mem _ (List.mem_append_right _ h)
  have k3 := hts (.fieldLink RX5 43 "LidCourt$Law" "jurors" "I") (by decide +kernel)
  refine lv_aload_n hx hb dX5_jurorNamed_0 rfl (lv_at hl 0 rfl) ?_
  refine va_get (D := D) (ci := 5) (v := .ref h0_jurorName) (C := RX5) (T := TX5) (N := 16) hx hb hts k2 hown hK.1 hP 0 rfl rfl 6 (by decide) k1 (fun _ h9 => h9) rfl dX5_jurorNamed_1 ?_
  refine lv_aload_n hx hb dX5_jurorNamed_4 rfl (lv_at hl 0 rfl) ?_
  refine va_get (D := D) (ci := 5) (v := .int h0_jurors) (C := RX5) (T := TX5) (N := 16) hx hb hts k2 hown hK.1 hP 0 rfl rfl 0 (by decide) k3 (fun _ h9 => h9) rfl dX5_jurorNamed_5 ?_
  refine lv_lload_n hx hb dX5_jurorNamed_8 rfl (lv_at hl 1 rfl) ?_
  refine oC_i (Wc := [(aJ ca h0_jurorName 10 F_h0_jurorName)]) (Wr := [(h0, .inr (5, [.int h0_jurors, .int h0_floors, .int h0_cases, .int h0_one, .int h0_dent, .int h0_seated, .ref h0_jurorName, .ref h0_floorName, .ref h0_caseName, .ref h0_pitch, .ref h0_length, .ref h0_hands, .ref h0_tune, .ref h0_dull, .ref h0_caseFloor, .ref h0_tuned]))]) (va_runS (As := [.ref h0_jurorName, .int h0_jurors, .long a1]) (rest := []) ⟨hx, hb, hml, hown, hts⟩ (s_X5_placeOf_10 l D ca H.size h0_jurorName h0_jurors a1 F_h0_jurorName i_h0_jurors) (va_cwS 3 hts gX5_jurorNamed_X5_placeOf rfl rfl rfl (by decide +kernel) ⟨Nat.le_of_ble_eq_true rfl, Nat.le_of_ble_eq_true rfl⟩) (oPS hK hP hD [1] rfl (by decide)) rfl rfl hl.1 rfl (lv_room (Nat.le_of_ble_eq_true rfl)) dX5_jurorNamed_9 ⟨Nat.le_of_ble_eq_true rfl, Nat.le_of_ble_eq_true rfl⟩) hP hD hS hA [1] [0] rfl rfl (by decide) (by decide) (fun r_4 u H locs w_5 hP hD hS => ?_)
  obtain ⟨⟩ := u
  have hP : va_P D vwCl [(h0, .inr (5, [.int h0_jurors, .int h0_floors, .int h0_cases, .int h0_one, .int h0_dent, .int h0_seated, .ref h0_jurorName, .ref h0_floorName, .ref h0_caseName, .ref h0_pitch, .ref h0_length, .ref h0_hands, .ref h0_tune, .ref h0_dull, .ref h0_caseFloor, .ref h0_tuned])), (aJ ca h0_jurorName 10 F_h0_jurorName)] H := hP
  have hD : va_D A [(h0, .inr (5, [.int h0_jurors, .int h0_floors, .int h0_cases, .int h0_one, .int h0_dent, .int h0_seated, .ref h0_jurorName, .ref h0_floorName, .ref h0_caseName, .ref h0_pitch, .ref h0_length, .ref h0_hands, .ref h0_tune, .ref h0_dull, .ref h0_caseFloor, .ref h0_tuned])), (aJ ca h0_jurorName 10 F_h0_jurorName)] := hD
  try dsimp only at w_5
  have h_6 := w_5
  exact oE_i hx hb hr rfl hlocks hP hD hS () [0, 1] rfl (by decide) h_6 (Nat.le_of_ble_eq_true rfl) (Nat.le_of_ble_eq_true rfl) dX5_jurorNamed_12
theorem dX5_floorNamed_0 : decode cX5_floorNamed 0 = .ok (.aload_n 0, 1) := by decide +kernel
theorem dX5_floorNamed_1 : decode cX5_floorNamed 1 = .ok (.getfield 15, 3) := by decide +kernel
theorem dX5_floorNamed_4 : decode cX5_floorNamed 4 = .ok (.aload_n 0, 1) := by decide +kernel
theorem dX5_floorNamed_5 : decode cX5_floorNamed 5 = .ok (.getfield 47, 3) := by decide +kernel
theorem dX5_floorNamed_8 : decode cX5_floorNamed 8 = .ok (.lload_n 1, 1) := by decide +kernel
theorem dX5_floorNamed_9 : decode cX5_floorNamed 9 = .ok (.invokestatic 68, 3) := by decide +kernel
theorem dX5_floorNamed_12 : decode cX5_floorNamed 12 = .ok (.ireturn, 1) := by decide +kernel
set_option maxRecDepth 20000 in
theorem ggX5_floorNamed_X5_placeOf : GoodIn wsX5_floorNamed wsX5_placeOf := goodIn_r _ [6] rfl (by decide +kernel)
set_option maxRecDepth 20000 in
theorem gX5_floorNamed_X5_placeOf : GoodIn wsX5_floorNamed (va_wsS RX5 68 yX5_placeOf wsX5_placeOf) := goodIn_app (goodIn_of _ (by decide +kernel)) ggX5_floorNamed_X5_placeOf
set_option maxHeartbeats 4000000 in
set_option maxRecDepth 100000 in
theorem s_X5_floorNamed (l : Launch) (D : va_G) (ca : Nat → ClassId) (sz : Nat) (h0 : Nat) (a1 : Int64) (h0_jurors : Int32) (h0_floors : Int32) (h0_cases : Int32) (h0_one : Int32) (h0_dent : Int32) (h0_seated : Int32) (h0_jurorName : Nat) (h0_floorName : Nat) (h0_caseName : Nat) (h0_pitch : Nat) (h0_length : Nat) (h0_hands : Nat) (h0_tune : Nat) (h0_dull : Nat) (h0_caseFloor : Nat) (h0_tuned : Nat) (F_h0_floorName : Nat → Int64) (i_h0_jurors : rg 0 10 h0_jurors) (i_h0_floors : rg 0 4 h0_floors) (i_h0_cases : rg 0 5 h0_cases) (i_h0_seated : rg 0 1023 h0_seated) : oMet l yX5_floorNamed wsX5_floorNamed ({ frames := 1, cells := 0, slots := 0, locals := 24 } : Room) [.ref h0, .long a1] D ca sz [(h0, .inr (5, [.int h0_jurors, .int h0_floors, .int h0_cases, .int h0_one, .int h0_dent, .int h0_seated, .ref h0_jurorName, .ref h0_floorName, .ref h0_caseName, .ref h0_pitch, .ref h0_length, .ref h0_hands, .ref h0_tune, .ref h0_dull, .ref h0_caseFloor, .ref h0_tuned])), (aJ ca h0_floorName 4 F_h0_floorName)] (oQi D (fun (r : Int32) (u : Unit) => (rg (-1) 3 r)) (fun (u : Unit) => [(h0, .inr (5, [.int h0_jurors, .int h0_floors, .int h0_cases, .int h0_one, .int h0_dent, .int h0_seated, .ref h0_jurorName, .ref h0_floorName, .ref h0_caseName, .ref h0_pitch, .ref h0_length, .ref h0_hands, .ref h0_tune, .ref h0_dull, .ref h0_caseFloor, .ref h0_tuned])), (aJ ca h0_floorName 4 F_h0_floorName)])) 0 0 := by
  refine oM (cc := cX5_floorNamed) (maxL := 3) (ret := (some .int)) (by decide) rfl (Nat.le_of_ble_eq_true rfl) [(0, .ref h0), (1, .long a1)] rfl ?_
  intro p e s m below meth c A H locs ls hx hb hr hml hts hown hlocks hin hK hP hD hA hS hl
  have hown : s.vm.findClass RX5 = some m.cls := hown
  have k1 := hts (.fieldLink RX5 15 "LidCourt$Law" "floorName" "[J") (by decide +kernel)
  have k2 : ∀ w ∈ wsX50, w ∈ wsX5_floorNamed := fun _ h => List.mem_cons_of_mem _ (List.mem_append_right _ h)
  have k3 := hts (.fieldLink RX5 47 "LidCourt$Law" "floors" "I") (by decide +kernel)
  refine lv_aload_n hx hb dX5_floorNamed_0 rfl (lv_at hl 0 rfl) ?_
  refine va_get (D := D) (ci := 5) (v := .ref h0_floorName) (C := RX5) (T := TX5) (N := 16) hx hb hts k2 hown hK.1 hP 0 rfl rfl 7 (by decide) k1 (fun _ h9 => h9) rfl dX5_floorNamed_1 ?_
  refine lv_aload_n hx hb dX5_floorNamed_4 rfl (lv_at hl 0 rfl) ?_
  refine va_get (D := D) (ci := 5) (v := .int h0_floors) (C := RX5) (T := TX5) (N := 16) hx hb hts k2 hown hK.1 hP 0 rfl rfl 1 (by decide) k3 (fun _ h9 => h9) rfl dX5_floorNamed_5 ?_
  refine lv_lload_n hx hb dX5_floorNamed_8 rfl (lv_at hl 1 rfl) ?_
  refine oC_i (Wc := [(aJ ca h0_floorName 4 F_h0_floorName)]) (Wr := [(h0, .inr (5, [.int h0_jurors, .int h0_floors, .int h0_cases, .int h0_one, .int h0_dent, .int h0_seated, .ref h0_jurorName, .ref h0_floorName, .ref h0_caseName, .ref h0_pitch, .ref h0_length, .ref h0_hands, .ref h0_tune, .ref h0_dull, .ref h0_caseFloor, .ref h0_tuned]))]) (va_runS (As := [.ref h0_floorName, .int h0_floors, .long a1]) (rest := []) ⟨hx, hb, hml, hown, hts⟩ (s_X5_placeOf_4 l D ca H.size h0_floorName h0_floors a1 F_h0_floorName i_h0_floors) (va_cwS 3 hts gX5_floorNamed_X5_placeOf rfl rfl rfl (by decide +kernel) ⟨Nat.le_of_ble_eq_true rfl, Nat.le_of_ble_eq_true rfl⟩) (oPS hK hP hD [1] rfl (by decide)) rfl rfl hl.1 rfl (lv_room (Nat.le_of_ble_eq_true rfl)) dX5_floorNamed_9 ⟨Nat.le_of_ble_eq_true rfl, Nat.le_of_ble_eq_true rfl⟩) hP hD hS hA [1] [0] rfl rfl (by decide) (by decide) (fun r_4 u H locs w_5 hP hD hS => ?_)
  obtain ⟨⟩ := u
  have hP : va_P D vwCl [(h0, .inr (5, [.int h0_jurors, .int h0_floors, .int h0_cases, .int h0_one, .int h0_dent, .int h0_seated, .ref h0_jurorName, .ref h0_floorName, .ref h0_caseName, .ref h0_pitch, .ref h0_length, .ref h0_hands, .ref h0_tune, .ref h0_dull, .ref h0_caseFloor, .ref h0_tuned])), (aJ ca h0_floorName 4 F_h0_floorName)] H := hP
  have hD : va_D A [(h0, .inr (5, [.int h0_jurors, .int h0_floors, .int h0_cases, .int h0_one, .int h0_dent, .int h0_seated, .ref h0_jurorName, .ref h0_floorName, .ref h0_caseName, .ref h0_pitch, .ref h0_length, .ref h0_hands, .ref h0_tune, .ref h0_dull, .ref h0_caseFloor, .ref h0_tuned])), (aJ ca h0_floorName 4 F_h0_floorName)] := hD
  try dsimp only at w_5
  have h_6 := w_5
  exact oE_i hx hb hr rfl hlocks hP hD hS () [0, 1] rfl (by decide) h_6 (Nat.le_of_ble_eq_true rfl) (Nat.le_of_ble_eq_true rfl) dX5_floorNamed_12
theorem dX5_caseNamed_0 : decode cX5_caseNamed 0 = .ok (.aload_n 0, 1) := by decide +kernel
theorem dX5_caseNamed_1 : decode cX5_caseNamed 1 = .ok (.getfield 18, 3) := by decide +kernel
theorem dX5_caseNamed_4 : decode cX5_caseNamed 4 = .ok (.aload_n 0, 1) := by decide +kernel
theorem dX5_caseNamed_5 : decode cX5_caseNamed 5 = .ok (.getfield 50, 3) := by decide +kernel
theorem dX5_caseNamed_8 : decode cX5_caseNamed 8 = .ok (.lload_n 1, 1) := by decide +kernel
theorem dX5_caseNamed_9 : decode cX5_caseNamed 9 = .ok (.invokestatic 68, 3) := by decide +kernel
theorem dX5_caseNamed_12 : decode cX5_caseNamed 12 = .ok (.ireturn, 1) := by decide +kernel
set_option maxRecDepth 20000 in
theorem ggX5_caseNamed_X5_placeOf : GoodIn wsX5_caseNamed wsX5_placeOf := goodIn_r _ [6] rfl (by decide +kernel)
set_option maxRecDepth 20000 in
theorem gX5_caseNamed_X5_placeOf : GoodIn wsX5_caseNamed (va_wsS RX5 68 yX5_placeOf wsX5_placeOf) := goodIn_app (goodIn_of _ (by decide +kernel)) ggX5_caseNamed_X5_placeOf
set_option maxHeartbeats 4000000 in
set_option maxRecDepth 100000 in
theorem s_X5_caseNamed (l : Launch) (D : va_G) (ca : Nat → ClassId) (sz : Nat) (h0 : Nat) (a1 : Int64) (h0_jurors : Int32) (h0_floors : Int32) (h0_cases : Int32) (h0_one : Int32) (h0_dent : Int32) (h0_seated : Int32) (h0_jurorName : Nat) (h0_floorName : Nat) (h0_caseName : Nat) (h0_pitch : Nat) (h0_length : Nat) (h0_hands : Nat) (h0_tune : Nat) (h0_dull : Nat) (h0_caseFloor : Nat) (h0_tuned : Nat) (F_h0_caseName : Nat → Int64) (i_h0_jurors : rg 0 10 h0_jurors) (i_h0_floors : rg 0 4 h0_floors) (i_h0_cases : rg 0 5 h0_cases) (i_h0_seated : rg 0 1023 h0_seated) : oMet l yX5_caseNamed wsX5_caseNamed ({ frames := 1, cells := 0, slots := 0, locals := 24 } : Room) [.ref h0, .long a1] D ca sz [(h0, .inr (5, [.int h0_jurors, .int h0_floors, .int h0_cases, .int h0_one, .int h0_dent, .int h0_seated, .ref h0_jurorName, .ref h0_floorName, .ref h0_caseName, .ref h0_pitch, .ref h0_length, .ref h0_hands, .ref h0_tune, .ref h0_dull, .ref h0_caseFloor, .ref h0_tuned])), (aJ ca h0_caseName 5 F_h0_caseName)] (oQi D (fun (r : Int32) (u : Unit) => (rg (-1) 4 r)) (fun (u : Unit) => [(h0, .inr (5, [.int h0_jurors, .int h0_floors, .int h0_cases, .int h0_one, .int h0_dent, .int h0_seated, .ref h0_jurorName, .ref h0_floorName, .ref h0_caseName, .ref h0_pitch, .ref h0_length, .ref h0_hands, .ref h0_tune, .ref h0_dull, .ref h0_caseFloor, .ref h0_tuned])), (aJ ca h0_caseName 5 F_h0_caseName)])) 0 0 := by
  refine oM (cc := cX5_caseNamed) (maxL := 3) (ret := (some .int)) (by decide) rfl (Nat.le_of_ble_eq_true rfl) [(0, .ref h0), (1, .long a1)] rfl ?_
  intro p e s m below meth c A H locs ls hx hb hr hml hts hown hlocks hin hK hP hD hA hS hl
  have hown : s.vm.findClass RX5 = some m.cls := hown
  have k1 := hts (.fieldLink RX5 18 "LidCourt$Law" "caseName" "[J") (by decide +kernel)
  have k2 : ∀ w ∈ wsX50, w ∈ wsX5_caseNamed := fun _ h => List.mem_cons_of_mem _ (List.mem_append_right _ h)
  have k3 := hts (.fieldLink RX5 50 "LidCourt$Law" "cases" "I") (by decide +kernel)
  refine lv_aload_n hx hb dX5_caseNamed_0 rfl (lv_at hl 0 rfl) ?_
  refine va_get (D := D) (ci := 5) (v := .ref h0_caseName) (C := RX5) (T := TX5) (N := 16) hx hb hts k2 hown hK.1 hP 0 rfl rfl 8 (by decide) k1 (fun _ h9 => h9) rfl dX5_caseNamed_1 ?_
  refine lv_aload_n hx hb dX5_caseNamed_4 rfl (lv_at hl 0 rfl) ?_
  refine va_get (D := D) (ci := 5) (v := .int h0_cases) (C := RX5) (T := TX5) (N := 16) hx hb hts k2 hown hK.1 hP 0 rfl rfl 2 (by decide) k3 (fun _ h9 => h9) rfl dX5_caseNamed_5 ?_
  refine lv_lload_n hx hb dX5_caseNamed_8 rfl (lv_at hl 1 rfl) ?_
  refine oC_i (Wc := [(aJ ca h0_caseName 5 F_h0_caseName)]) (Wr := [(h0, .inr (5, [.int h0_jurors, .int h0_floors, .int h0_cases, .int h0_one, .int h0_dent, .int h0_seated, .ref h0_jurorName, .ref h0_floorName, .ref h0_caseName, .ref h0_pitch, .ref h0_length, .ref h0_hands, .ref h0_tune, .ref h0_dull, .ref h0_caseFloor, .ref h0_tuned]))]) (va_runS (As := [.ref h0_caseName, .int h0_cases, .long a1]) (rest := []) ⟨hx, hb, hml, hown, hts⟩ (s_X5_placeOf_5 l D ca H.size h0_caseName h0_cases a1 F_h0_caseName i_h0_cases) (va_cwS 3 hts gX5_caseNamed_X5_placeOf rfl rfl rfl (by decide +kernel) ⟨Nat.le_of_ble_eq_true rfl, Nat.le_of_ble_eq_true rfl⟩) (oPS hK hP hD [1] rfl (by decide)) rfl rfl hl.1 rfl (lv_room (Nat.le_of_ble_eq_true rfl)) dX5_caseNamed_9 ⟨Nat.le_of_ble_eq_true rfl, Nat.le_of_ble_eq_true rfl⟩) hP hD hS hA [1] [0] rfl rfl (by decide) (by decide) (fun r_4 u H locs w_5 hP hD hS => ?_)
  obtain ⟨⟩ := u
  have hP : va_P D vwCl [(h0, .inr (5, [.int h0_jurors, .int h0_floors, .int h0_cases, .int h0_one, .int h0_dent, .int h0_seated, .ref h0_jurorName, .ref h0_floorName, .ref h0_caseName, .ref h0_pitch, .ref h0_length, .ref h0_hands, .ref h0_tune, .ref h0_dull, .ref h0_caseFloor, .ref h0_tuned])), (aJ ca h0_caseName 5 F_h0_caseName)] H := hP
  have hD : va_D A [(h0, .inr (5, [.int h0_jurors, .int h0_floors, .int h0_cases, .int h0_one, .int h0_dent, .int h0_seated, .ref h0_jurorName, .ref h0_floorName, .ref h0_caseName, .ref h0_pitch, .ref h0_length, .ref h0_hands, .ref h0_tune, .ref h0_dull, .ref h0_caseFloor, .ref h0_tuned])), (aJ ca h0_caseName 5 F_h0_caseName)] := hD
  try dsimp only at w_5
  have h_6 := w_5
  exact oE_i hx hb hr rfl hlocks hP hD hS () [0, 1] rfl (by decide) h_6 (Nat.le_of_ble_eq_true rfl) (Nat.le_of_ble_eq_true rfl) dX5_caseNamed_12
theorem dX5_isTold_0 : decode cX5_isTold 0 = .ok (.aload_n 0, 1) := by decide +kernel
theorem dX5_isTold_1 : decode cX5_isTold 1 = .ok (.lload_n 1, 1) := by decide +kernel
theorem dX5_isTold_2 : decode cX5_isTold 2 = .ok (.invokevirtual 72, 3) := by decide +kernel
theorem dX5_isTold_5 : decode cX5_isTold 5 = .ok (.iconst (-1), 1) := by decide +kernel
theorem dX5_isTold_6 : decode cX5_isTold 6 = .ok (.if_icmp .ne 21, 3) := by decide +kernel
theorem dX5_isTold_9 : decode cX5_isTold 9 = .ok (.aload_n 0, 1) := by decide +kernel
theorem dX5_isTold_10 : decode cX5_isTold 10 = .ok (.lload_n 1, 1) := by decide +kernel
theorem dX5_isTold_11 : decode cX5_isTold 11 = .ok (.invokevirtual 76, 3) := by decide +kernel
theorem dX5_isTold_14 : decode cX5_isTold 14 = .ok (.iconst (-1), 1) := by decide +kernel
theorem dX5_isTold_15 : decode cX5_isTold 15 = .ok (.if_icmp .ne 12, 3) := by decide +kernel
theorem dX5_isTold_18 : decode cX5_isTold 18 = .ok (.aload_n 0, 1) := by decide +kernel
theorem dX5_isTold_19 : decode cX5_isTold 19 = .ok (.lload_n 1, 1) := by decide +kernel
theorem dX5_isTold_20 : decode cX5_isTold 20 = .ok (.invokevirtual 79, 3) := by decide +kernel
theorem dX5_isTold_23 : decode cX5_isTold 23 = .ok (.iconst (-1), 1) := by decide +kernel
theorem dX5_isTold_24 : decode cX5_isTold 24 = .ok (.if_icmp .eq 7, 3) := by decide +kernel
theorem dX5_isTold_27 : decode cX5_isTold 27 = .ok (.iconst 1, 1) := by decide +kernel
theorem dX5_isTold_28 : decode cX5_isTold 28 = .ok (.goto 4, 3) := by decide +kernel
theorem dX5_isTold_31 : decode cX5_isTold 31 = .ok (.iconst 0, 1) := by decide +kernel
theorem dX5_isTold_32 : decode cX5_isTold 32 = .ok (.ireturn, 1) := by decide +kernel
set_option maxRecDepth 20000 in
theorem ggX5_isTold_X5_jurorNamed : GoodIn wsX5_isTold wsX5_jurorNamed := goodIn_r _ [5, 6, 7, 8, 9, 4, 10, 23, 24, 25, 26, 27, 28, 29, 30, 31, 32, 33, 34, 35, 36, 37, 38] rfl (by decide +kernel)
set_option maxRecDepth 20000 in
theorem gX5_isTold_X5_jurorNamed : GoodIn wsX5_isTold (wsV RX5 72 RX5 yX5_jurorNamed wsX5_jurorNamed) := goodIn_app (goodIn_of _ (by decide +kernel)) ggX5_isTold_X5_jurorNamed
set_option maxRecDepth 20000 in
theorem ggX5_isTold_X5_floorNamed : GoodIn wsX5_isTold wsX5_floorNamed := goodIn_r _ [14, 15, 16, 8, 9, 4, 10, 23, 24, 25, 26, 27, 28, 29, 30, 31, 32, 33, 34, 35, 36, 37, 38] rfl (by decide +kernel)
set_option maxRecDepth 20000 in
theorem gX5_isTold_X5_floorNamed : GoodIn wsX5_isTold (wsV RX5 76 RX5 yX5_floorNamed wsX5_floorNamed) := goodIn_app (goodIn_of _ (by decide +kernel)) ggX5_isTold_X5_floorNamed
set_option maxRecDepth 20000 in
theorem ggX5_isTold_X5_caseNamed : GoodIn wsX5_isTold wsX5_caseNamed := goodIn_r _ [20, 21, 22, 8, 9, 4, 10, 23, 24, 25, 26, 27, 28, 29, 30, 31, 32, 33, 34, 35, 36, 37, 38] rfl (by decide +kernel)
set_option maxRecDepth 20000 in
theorem gX5_isTold_X5_caseNamed : GoodIn wsX5_isTold (wsV RX5 79 RX5 yX5_caseNamed wsX5_caseNamed) := goodIn_app (goodIn_of _ (by decide +kernel)) ggX5_isTold_X5_caseNamed
set_option maxHeartbeats 4000000 in
set_option maxRecDepth 100000 in
theorem s_X5_isTold (l : Launch) (D : va_G) (ca : Nat → ClassId) (sz : Nat) (h0 : Nat) (a1 : Int64) (h0_jurors : Int32) (h0_floors : Int32) (h0_cases : Int32) (h0_one : Int32) (h0_dent : Int32) (h0_seated : Int32) (h0_jurorName : Nat) (h0_floorName : Nat) (h0_caseName : Nat) (h0_pitch : Nat) (h0_length : Nat) (h0_hands : Nat) (h0_tune : Nat) (h0_dull : Nat) (h0_caseFloor : Nat) (h0_tuned : Nat) (F_h0_jurorName : Nat → Int64) (F_h0_floorName : Nat → Int64) (F_h0_caseName : Nat → Int64) (i_h0_jurors : rg 0 10 h0_jurors) (i_h0_floors : rg 0 4 h0_floors) (i_h0_cases : rg 0 5 h0_cases) (i_h0_seated : rg 0 1023 h0_seated) : oMet l yX5_isTold wsX5_isTold ({ frames := 2, cells := 0, slots := 0, locals := 46 } : Room) [.ref h0, .long a1] D ca sz [(h0, .inr (5, [.int h0_jurors, .int h0_floors, .int h0_cases, .int h0_one, .int h0_dent, .int h0_seated, .ref h0_jurorName, .ref h0_floorName, .ref h0_caseName, .ref h0_pitch, .ref h0_length, .ref h0_hands, .ref h0_tune, .ref h0_dull, .ref h0_caseFloor, .ref h0_tuned])), (aJ ca h0_jurorName 10 F_h0_jurorName), (aJ ca h0_floorName 4 F_h0_floorName), (aJ ca h0_caseName 5 F_h0_caseName)] (oQi D (fun (r : Int32) (u : Unit) => ((r = 1)) ∨ ((r = 0))) (fun (u : Unit) => [(h0, .inr (5, [.int h0_jurors, .int h0_floors, .int h0_cases, .int h0_one, .int h0_dent, .int h0_seated, .ref h0_jurorName, .ref h0_floorName, .ref h0_caseName, .ref h0_pitch, .ref h0_length, .ref h0_hands, .ref h0_tune, .ref h0_dull, .ref h0_caseFloor, .ref h0_tuned])), (aJ ca h0_jurorName 10 F_h0_jurorName), (aJ ca h0_floorName 4 F_h0_floorName), (aJ ca h0_caseName 5 F_h0_caseName)])) 0 0 := by
  refine oM (cc := cX5_isTold) (maxL := 3) (ret := (some .boolean)) (by decide) rfl (Nat.le_of_ble_eq_true rfl) [(0, .ref h0), (1, .long a1)] rfl ?_
  intro p e s m below meth c A H locs ls hx hb hr hml hts hown hlocks hin hK hP hD hA hS hl
  have hown : s.vm.findClass RX5 = some m.cls := hown
  refine lv_aload_n hx hb dX5_isTold_0 rfl (lv_at hl 0 rfl) ?_
  refine lv_lload_n hx hb dX5_isTold_1 rfl (lv_at hl 1 rfl) ?_
  refine oC_i (Wc := [(h0, .inr (5, [.int h0_jurors, .int h0_floors, .int h0_cases, .int h0_one, .int h0_dent, .int h0_seated, .ref h0_jurorName, .ref h0_floorName, .ref h0_caseName, .ref h0_pitch, .ref h0_length, .ref h0_hands, .ref h0_tune, .ref h0_dull, .ref h0_caseFloor, .ref h0_tuned])), (aJ ca h0_jurorName 10 F_h0_jurorName)]) (Wr := [(aJ ca h0_floorName 4 F_h0_floorName), (aJ ca h0_caseName 5 F_h0_caseName)]) (va_runV (As := [.long a1]) (rest := []) ⟨hx, hb, hml, hown, hts⟩ (s_X5_jurorNamed l D ca H.size h0 a1 h0_jurors h0_floors h0_cases h0_one h0_dent h0_seated h0_jurorName h0_floorName h0_caseName h0_pitch h0_length h0_hands h0_tune h0_dull h0_caseFloor h0_tuned F_h0_jurorName i_h0_jurors i_h0_floors i_h0_cases i_h0_seated) (cwV 1 hts gX5_isTold_X5_jurorNamed rfl rfl rfl (by decide +kernel) ⟨Nat.le_of_ble_eq_true rfl, Nat.le_of_ble_eq_true rfl⟩) (oPV (C := RX5) hK hP hD [0, 1] rfl (by decide) 0 rfl (ci := 5) rfl rfl) rfl rfl hl.1 rfl (lv_room (Nat.le_of_ble_eq_true rfl)) dX5_isTold_2 ⟨Nat.le_of_ble_eq_true rfl, Nat.le_of_ble_eq_true rfl⟩) hP hD hS hA [0, 1] [2, 3] rfl rfl (by decide) (by decide) (fun r_25 u H locs w_26 hP hD hS => ?_)
  obtain ⟨⟩ := u
  have hP : va_P D vwCl [(aJ ca h0_floorName 4 F_h0_floorName), (aJ ca h0_caseName 5 F_h0_caseName), (h0, .inr (5, [.int h0_jurors, .int h0_floors, .int h0_cases, .int h0_one, .int h0_dent, .int h0_seated, .ref h0_jurorName, .ref h0_floorName, .ref h0_caseName, .ref h0_pitch, .ref h0_length, .ref h0_hands, .ref h0_tune, .ref h0_dull, .ref h0_caseFloor, .ref h0_tuned])), (aJ ca h0_jurorName 10 F_h0_jurorName)] H := hP
  have hD : va_D A [(aJ ca h0_floorName 4 F_h0_floorName), (aJ ca h0_caseName 5 F_h0_caseName), (h0, .inr (5, [.int h0_jurors, .int h0_floors, .int h0_cases, .int h0_one, .int h0_dent, .int h0_seated, .ref h0_jurorName, .ref h0_floorName, .ref h0_caseName, .ref h0_pitch, .ref h0_length, .ref h0_hands, .ref h0_tune, .ref h0_dull, .ref h0_caseFloor, .ref h0_tuned])), (aJ ca h0_jurorName 10 F_h0_jurorName)] := hD
  try dsimp only at w_26
  have h_27 := w_26
  refine lv_iconst (v := (-1)) hx hb dX5_isTold_5 (by decide) ?_
  refine lv_icmp_ne (tgt := 27) hx hb dX5_isTold_6 (by decide) (fun c_28 => ?_) (fun c_28 => ?_)
  · skip
    have h_29 : rg 0 9 r_25 := cl_nlo c_28 h_27 (show ((-1) : Int32).toInt = (-1) by decide) (by decide) (by decide)
    refine lv_iconst (v := 1) hx hb dX5_isTold_27 (by decide) ?_
    refine lv_goto (tgt := 32) hx hb dX5_isTold_28 (by decide) ?_
    exact oE_i hx hb hr (by decide) hlocks hP hD hS () [2, 3, 0, 1] rfl (by decide) (Or.inl rfl) (Nat.le_of_ble_eq_true rfl) (Nat.le_of_ble_eq_true rfl) dX5_isTold_32
  · skip
    have o_30 : rl 0 r_25 (-1) := rl_eq c_28
    have h_31 : rg (-1) (-1) r_25 := rl_x o_30 h_27 (⟨by decide, by decide⟩ : rg (-1) (-1) ((-1) : Int32)) (by decide) (by decide)
    have o_32 : rl 0 (-1) r_25 := rl_eq c_28.symm
    refine lv_aload_n hx hb dX5_isTold_9 rfl (lv_at hl 0 rfl) ?_
    refine lv_lload_n hx hb dX5_isTold_10 rfl (lv_at hl 1 rfl) ?_
    refine oC_i (Wc := [(h0, .inr (5, [.int h0_jurors, .int h0_floors, .int h0_cases, .int h0_one, .int h0_dent, .int h0_seated, .ref h0_jurorName, .ref h0_floorName, .ref h0_caseName, .ref h0_pitch, .ref h0_length, .ref h0_hands, .ref h0_tune, .ref h0_dull, .ref h0_caseFloor, .ref h0_tuned])), (aJ ca h0_floorName 4 F_h0_floorName)]) (Wr := [(aJ ca h0_caseName 5 F_h0_caseName), (aJ ca h0_jurorName 10 F_h0_jurorName)]) (va_runV (As := [.long a1]) (rest := []) ⟨hx, hb, hml, hown, hts⟩ (s_X5_floorNamed l D ca H.size h0 a1 h0_jurors h0_floors h0_cases h0_one h0_dent h0_seated h0_jurorName h0_floorName h0_caseName h0_pitch h0_length h0_hands h0_tune h0_dull h0_caseFloor h0_tuned F_h0_floorName i_h0_jurors i_h0_floors i_h0_cases i_h0_seated) (cwV 1 hts gX5_isTold_X5_floorNamed rfl rfl rfl (by decide +kernel) ⟨Nat.le_of_ble_eq_true rfl, Nat.le_of_ble_eq_true rfl⟩) (oPV (C := RX5) hK hP hD [2, 0] rfl (by decide) 0 rfl (ci := 5) rfl rfl) rfl rfl hl.1 rfl (lv_room (Nat.le_of_ble_eq_true rfl)) dX5_isTold_11 ⟨Nat.le_of_ble_eq_true rfl, Nat.le_of_ble_eq_true rfl⟩) hP hD hS hA [2, 0] [1, 3] rfl rfl (by decide) (by decide) (fun r_33 u H locs w_34 hP hD hS => ?_)
    obtain ⟨⟩ := u
    have hP : va_P D vwCl [(aJ ca h0_caseName 5 F_h0_caseName), (aJ ca h0_jurorName 10 F_h0_jurorName), (h0, .inr (5, [.int h0_jurors, .int h0_floors, .int h0_cases, .int h0_one, .int h0_dent, .int h0_seated, .ref h0_jurorName, .ref h0_floorName, .ref h0_caseName, .ref h0_pitch, .ref h0_length, .ref h0_hands, .ref h0_tune, .ref h0_dull, .ref h0_caseFloor, .ref h0_tuned])), (aJ ca h0_floorName 4 F_h0_floorName)] H := hP
    have hD : va_D A [(aJ ca h0_caseName 5 F_h0_caseName), (aJ ca h0_jurorName 10 F_h0_jurorName), (h0, .inr (5, [.int h0_jurors, .int h0_floors, .int h0_cases, .int h0_one, .int h0_dent, .int h0_seated, .ref h0_jurorName, .ref h0_floorName, .ref h0_caseName, .ref h0_pitch, .ref h0_length, .ref h0_hands, .ref h0_tune, .ref h0_dull, .ref h0_caseFloor, .ref h0_tuned])), (aJ ca h0_floorName 4 F_h0_floorName)] := hD
    try dsimp only at w_34
    have h_35 := w_34
    refine lv_iconst (v := (-1)) hx hb dX5_isTold_14 (by decide) ?_
    refine lv_icmp_ne (tgt := 27) hx hb dX5_isTold_15 (by decide) (fun c_36 => ?_) (fun c_36 => ?_)
    · skip
      have h_37 : rg 0 3 r_33 := cl_nlo c_36 h_35 (show ((-1) : Int32).toInt = (-1) by decide) (by decide) (by decide)
      refine lv_iconst (v := 1) hx hb dX5_isTold_27 (by decide) ?_
      refine lv_goto (tgt := 32) hx hb dX5_isTold_28 (by decide) ?_
      exact oE_i hx hb hr (by decide) hlocks hP hD hS () [2, 1, 3, 0] rfl (by decide) (Or.inl rfl) (Nat.le_of_ble_eq_true rfl) (Nat.le_of_ble_eq_true rfl) dX5_isTold_32
    · skip
      have o_38 : rl 0 r_33 (-1) := rl_eq c_36
      have h_39 : rg (-1) (-1) r_33 := rl_x o_38 h_35 (⟨by decide, by decide⟩ : rg (-1) (-1) ((-1) : Int32)) (by decide) (by decide)
      have o_40 : rl 0 (-1) r_33 := rl_eq c_36.symm
      refine lv_aload_n hx hb dX5_isTold_18 rfl (lv_at hl 0 rfl) ?_
      refine lv_lload_n hx hb dX5_isTold_19 rfl (lv_at hl 1 rfl) ?_
      refine oC_i (Wc := [(h0, .inr (5, [.int h0_jurors, .int h0_floors, .int h0_cases, .int h0_one, .int h0_dent, .int h0_seated, .ref h0_jurorName, .ref h0_floorName, .ref h0_caseName, .ref h0_pitch, .ref h0_length, .ref h0_hands, .ref h0_tune, .ref h0_dull, .ref h0_caseFloor, .ref h0_tuned])), (aJ ca h0_caseName 5 F_h0_caseName)]) (Wr := [(aJ ca h0_jurorName 10 F_h0_jurorName), (aJ ca h0_floorName 4 F_h0_floorName)]) (va_runV (As := [.long a1]) (rest := []) ⟨hx, hb, hml, hown, hts⟩ (s_X5_caseNamed l D ca H.size h0 a1 h0_jurors h0_floors h0_cases h0_one h0_dent h0_seated h0_jurorName h0_floorName h0_caseName h0_pitch h0_length h0_hands h0_tune h0_dull h0_caseFloor h0_tuned F_h0_caseName i_h0_jurors i_h0_floors i_h0_cases i_h0_seated) (cwV 1 hts gX5_isTold_X5_caseNamed rfl rfl rfl (by decide +kernel) ⟨Nat.le_of_ble_eq_true rfl, Nat.le_of_ble_eq_true rfl⟩) (oPV (C := RX5) hK hP hD [2, 0] rfl (by decide) 0 rfl (ci := 5) rfl rfl) rfl rfl hl.1 rfl (lv_room (Nat.le_of_ble_eq_true rfl)) dX5_isTold_20 ⟨Nat.le_of_ble_eq_true rfl, Nat.le_of_ble_eq_true rfl⟩) hP hD hS hA [2, 0] [1, 3] rfl rfl (by decide) (by decide) (fun r_41 u H locs w_42 hP hD hS => ?_)
      obtain ⟨⟩ := u
      have hP : va_P D vwCl [(aJ ca h0_jurorName 10 F_h0_jurorName), (aJ ca h0_floorName 4 F_h0_floorName), (h0, .inr (5, [.int h0_jurors, .int h0_floors, .int h0_cases, .int h0_one, .int h0_dent, .int h0_seated, .ref h0_jurorName, .ref h0_floorName, .ref h0_caseName, .ref h0_pitch, .ref h0_length, .ref h0_hands, .ref h0_tune, .ref h0_dull, .ref h0_caseFloor, .ref h0_tuned])), (aJ ca h0_caseName 5 F_h0_caseName)] H := hP
      have hD : va_D A [(aJ ca h0_jurorName 10 F_h0_jurorName), (aJ ca h0_floorName 4 F_h0_floorName), (h0, .inr (5, [.int h0_jurors, .int h0_floors, .int h0_cases, .int h0_one, .int h0_dent, .int h0_seated, .ref h0_jurorName, .ref h0_floorName, .ref h0_caseName, .ref h0_pitch, .ref h0_length, .ref h0_hands, .ref h0_tune, .ref h0_dull, .ref h0_caseFloor, .ref h0_tuned])), (aJ ca h0_caseName 5 F_h0_caseName)] := hD
      try dsimp only at w_42
      have h_43 := w_42
      refine lv_iconst (v := (-1)) hx hb dX5_isTold_23 (by decide) ?_
      refine lv_icmp_eq (tgt := 31) hx hb dX5_isTold_24 (by decide) (fun c_44 => ?_) (fun c_44 => ?_)
      · skip
        have o_45 : rl 0 r_41 (-1) := rl_eq c_44
        have h_46 : rg (-1) (-1) r_41 := rl_x o_45 h_43 (⟨by decide, by decide⟩ : rg (-1) (-1) ((-1) : Int32)) (by decide) (by decide)
        have o_47 : rl 0 (-1) r_41 := rl_eq c_44.symm
        refine lv_iconst (v := 0) hx hb dX5_isTold_31 (by decide) ?_
        exact oE_i hx hb hr (by decide) hlocks hP hD hS () [2, 0, 1, 3] rfl (by decide) (Or.inr (rfl)) (Nat.le_of_ble_eq_true rfl) (Nat.le_of_ble_eq_true rfl) dX5_isTold_32
      · skip
        have h_48 : rg 0 4 r_41 := cl_nlo c_44 h_43 (show ((-1) : Int32).toInt = (-1) by decide) (by decide) (by decide)
        refine lv_iconst (v := 1) hx hb dX5_isTold_27 (by decide) ?_
        refine lv_goto (tgt := 32) hx hb dX5_isTold_28 (by decide) ?_
        exact oE_i hx hb hr (by decide) hlocks hP hD hS () [2, 0, 1, 3] rfl (by decide) (Or.inl rfl) (Nat.le_of_ble_eq_true rfl) (Nat.le_of_ble_eq_true rfl) dX5_isTold_32
theorem dX6_seesName_0 : decode cX6_seesName 0 = .ok (.aload_n 0, 1) := by decide +kernel
theorem dX6_seesName_1 : decode cX6_seesName 1 = .ok (.getfield 51, 3) := by decide +kernel
theorem dX6_seesName_4 : decode cX6_seesName 4 = .ok (.iconst 2, 1) := by decide +kernel
theorem dX6_seesName_5 : decode cX6_seesName 5 = .ok (.if_icmp .eq 5, 3) := by decide +kernel
theorem dX6_seesName_8 : decode cX6_seesName 8 = .ok (.iconst 0, 1) := by decide +kernel
theorem dX6_seesName_9 : decode cX6_seesName 9 = .ok (.ireturn, 1) := by decide +kernel
theorem dX6_seesName_10 : decode cX6_seesName 10 = .ok (.iconst 0, 1) := by decide +kernel
theorem dX6_seesName_11 : decode cX6_seesName 11 = .ok (.istore_n 1, 1) := by decide +kernel
theorem dX6_seesName_12 : decode cX6_seesName 12 = .ok (.iload_n 1, 1) := by decide +kernel
theorem dX6_seesName_13 : decode cX6_seesName 13 = .ok (.getstatic 69, 3) := by decide +kernel
theorem dX6_seesName_16 : decode cX6_seesName 16 = .ok (.arraylength, 1) := by decide +kernel
theorem dX6_seesName_17 : decode cX6_seesName 17 = .ok (.if_icmp .ge 27, 3) := by decide +kernel
theorem dX6_seesName_20 : decode cX6_seesName 20 = .ok (.aload_n 0, 1) := by decide +kernel
theorem dX6_seesName_21 : decode cX6_seesName 21 = .ok (.getfield 44, 3) := by decide +kernel
theorem dX6_seesName_24 : decode cX6_seesName 24 = .ok (.getstatic 69, 3) := by decide +kernel
theorem dX6_seesName_27 : decode cX6_seesName 27 = .ok (.iload_n 1, 1) := by decide +kernel
theorem dX6_seesName_28 : decode cX6_seesName 28 = .ok (.aaload, 1) := by decide +kernel
theorem dX6_seesName_29 : decode cX6_seesName 29 = .ok (.getfield 66, 3) := by decide +kernel
theorem dX6_seesName_32 : decode cX6_seesName 32 = .ok (.lcmp, 1) := by decide +kernel
theorem dX6_seesName_33 : decode cX6_seesName 33 = .ok (.ifCond .ne 5, 3) := by decide +kernel
theorem dX6_seesName_36 : decode cX6_seesName 36 = .ok (.iconst 0, 1) := by decide +kernel
theorem dX6_seesName_37 : decode cX6_seesName 37 = .ok (.ireturn, 1) := by decide +kernel
theorem dX6_seesName_38 : decode cX6_seesName 38 = .ok (.iinc 1 1, 3) := by decide +kernel
theorem dX6_seesName_41 : decode cX6_seesName 41 = .ok (.goto (-29), 3) := by decide +kernel
theorem dX6_seesName_44 : decode cX6_seesName 44 = .ok (.iconst 1, 1) := by decide +kernel
theorem dX6_seesName_45 : decode cX6_seesName 45 = .ok (.ireturn, 1) := by decide +kernel
set_option maxHeartbeats 4000000 in
set_option maxRecDepth 100000 in
theorem s_X6_seesName (l : Launch) (D : va_G) (ca : Nat → ClassId) (ad : Nat → Nat) (wt : Nat) (sz : Nat) (h0 : Nat) (h0_bytes : Nat) (h0_length : Int32) (h0_faultKind : Int32) (h0_faultAt : Int32) (h0_letters : Int64) (h0_mostBytes : Int32) (h0_behind : Int32) (h0_at : Int32) (h0_kind : Int32) (h0_number : Int32) (i_h0_length : rg 0 940 h0_length) (i_h0_faultKind : rg 0 4 h0_faultKind) (i_h0_behind : rg 0 940 h0_behind) : sMet l yX6_seesName wsX6_seesName ({ frames := 0, cells := 0, slots := 0, locals := 0 } : Room) [.ref h0] D ca ad wt sz [(h0, .inr (6, [.ref h0_bytes, .int h0_length, .int h0_faultKind, .int h0_faultAt, .long h0_letters, .int h0_mostBytes, .int h0_behind, .int h0_at, .int h0_kind, .int h0_number]))] (oQi D (fun (r : Int32) (u : Unit) => ((r = 0)) ∨ ((r = 1) ∧ (rg 2 2 h0_kind))) (fun (u : Unit) => [(h0, .inr (6, [.ref h0_bytes, .int h0_length, .int h0_faultKind, .int h0_faultAt, .long h0_letters, .int h0_mostBytes, .int h0_behind, .int h0_at, .int h0_kind, .int h0_number]))])) 0 0 := by
  refine sM (cc := cX6_seesName) (maxL := 2) (ret := (some .boolean)) (by decide) rfl (Nat.le_of_ble_eq_true rfl) [(0, .ref h0)] rfl ?_
  intro p e s m below meth c A H locs ls hx hb hr hml hts hown hlocks hin hK hP hD hA hS hl hZ
  have hown : s.vm.findClass RX6 = some m.cls := hown
  have hE := hZ.2.2.2.2.2.1
  have k1 := hts (.fieldLink RX6 44 "LidCourt$Reader" "letters" "J") (by decide +kernel)
  have k2 : ∀ w ∈ wsX60, w ∈ wsX6_seesName := fun _ h => List.mem_cons_of_mem _ (List.mem_append_right _ h)
  have k3 := hts (.fieldLink RX6 66 "LidCourt$Word" "letters" "J") (by decide +kernel)
  have k4 := hts (.fieldLink RX6 51 "LidCourt$Reader" "kind" "I") (by decide +kernel)
  have J12_98 : ∀ (n : Nat) (y12_0 : Int32), True → rg 0 940 y12_0 → rg 2 2 h0_kind → 940 < y12_0.toInt + (n : Int) → ∀ (H : Heap) (locs : List Loc) (ls : Array Slot), va_P D vwCl [(h0, .inr (6, [.ref h0_bytes, .int h0_length, .int h0_faultKind, .int h0_faultAt, .long h0_letters, .int h0_mostBytes, .int h0_behind, .int h0_at, .int h0_kind, .int h0_number]))] H → va_D A [(h0, .inr (6, [.ref h0_bytes, .int h0_length, .int h0_faultKind, .int h0_faultAt, .long h0_letters, .int h0_mostBytes, .int h0_behind, .int h0_at, .int h0_kind, .int h0_number]))] → va_S A s.heap H locs → lv_has ls 2 [(0, .ref h0), (1, .int y12_0)] → W p l e ({ frames := 0, cells := 0, slots := 0, locals := 0 } : Room) s m ([.ref h0] : List Value).toArray below meth c H locs 0 0 (MQ below ((oQi D (fun (r : Int32) (u : Unit) => ((r = 0)) ∨ ((r = 1) ∧ (rg 2 2 h0_kind))) (fun (u : Unit) => [(h0, .inr (6, [.ref h0_bytes, .int h0_length, .int h0_faultKind, .int h0_faultAt, .long h0_letters, .int h0_mostBytes, .int h0_behind, .int h0_at, .int h0_kind, .int h0_number]))])) A) ([.ref h0] : List Value).toArray s 0 0 A) (F0 m 12 ls []) := by
    intro n
    induction n with
    | zero => intro y12_0 _ hy12_0 t12_h0_kind hn; exact absurd hn (by have q9 := hy12_0.2; omega)
    | succ n ih =>
      intro y12_0 _ hy12_0 t12_h0_kind hn H locs ls hP hD hS hl
      refine lv_iload_n hx hb dX6_seesName_12 rfl (lv_at hl 1 rfl) ?_
      refine va_getsN (v := .ref wt) hx hb hZ.2.2.1 hS hown (va_Nw.use rfl hK.2.2.1.1) (fun _ h9 => h9) dX6_seesName_13 ?_
      refine va_tlen hx hb hZ.2.2.2.1 hS (v := 26) (by decide) dX6_seesName_16 ?_
      refine lv_icmp_ge (tgt := 44) hx hb dX6_seesName_17 (by decide) (fun c_117 => ?_) (fun c_117 => ?_)
      · skip
        have o_118 : rl 0 26 y12_0 := rl_le c_117
        have h_119 : rg 26 940 y12_0 := rl_y o_118 (⟨by decide, by decide⟩ : rg 26 26 (26 : Int32)) hy12_0 (by decide) (by decide)
        refine lv_iconst (v := 1) hx hb dX6_seesName_44 (by decide) ?_
        exact oE_i hx hb hr (by decide) hlocks hP hD hS () [0] rfl (by decide) (Or.inr (⟨rfl, t12_h0_kind⟩)) (Nat.le_of_ble_eq_true rfl) (Nat.le_of_ble_eq_true rfl) dX6_seesName_45
      · skip
        have o_120 : rl 1 y12_0 26 := rl_nle c_117
        have h_121 : rg 0 25 y12_0 := rl_x o_120 hy12_0 (⟨by decide, by decide⟩ : rg 26 26 (26 : Int32)) (by decide) (by decide)
        refine lv_aload_n hx hb dX6_seesName_20 rfl (lv_at hl 0 rfl) ?_
        refine va_get (D := D) (ci := 6) (v := .long h0_letters) (C := RX6) (T := TX6) (N := 10) hx hb hts k2 hown hK.1 hP 0 rfl rfl 4 (by decide) k1 (fun _ h9 => h9) rfl dX6_seesName_21 ?_
        refine va_getsN (v := .ref wt) hx hb hZ.2.2.1 hS hown (va_Nw.use rfl hK.2.2.1.1) (fun _ h9 => h9) dX6_seesName_24 ?_
        refine lv_iload_n hx hb dX6_seesName_27 rfl (lv_at hl 1 rfl) ?_
        refine vb_tq hx hb hZ.2.2.2.1 hS (rg_in h_121 (by decide) (by decide)) (v := .ref (ad y12_0.toNatClampNeg)) rfl dX6_seesName_28 ?_
        have h_122 : y12_0.toNatClampNeg < 26 := adk h_121 (by decide) (by decide)
        refine va_getX hx hb hE (i := y12_0.toNatClampNeg) h_122 hS hown k3 (fun _ h9 => h9) dX6_seesName_29 ?_
        refine lv_topl (fun x_123 ex_123 => ?_)
        refine W.lcmp hx hb dX6_seesName_32 ?_
        refine lv_topi (fun x_124 ex_124 => ?_)
        refine lv_if_ne (tgt := 38) hx hb dX6_seesName_33 (by decide) (fun c_125 => ?_) (fun c_125 => ?_)
        · skip
          have h_126 : ¬ (h0_letters : Int64) = x_123 := cmp_nn ex_124 c_125
          obtain ⟨x_127, ex_127⟩ : ∃ y : Int32, y = y12_0 + 1 := ⟨_, rfl⟩
          have h_128 : rg 1 26 x_127 := by rw [ex_127]; exact rg_add h_121 (⟨by decide, by decide⟩ : rg 1 1 (1 : Int32)) (by decide) (by decide) (by decide) (by decide)
          have l_129 : lq x_127.toInt (y12_0.toInt + 1) := lqm (by rw [ex_127]; have q := tadd h_121 (⟨by decide, by decide⟩ : rg 1 1 (1 : Int32)) (by decide) (by decide); have r1 := lqe (lqm (by decide) : lq (1 : Int32).toInt 1); omega)
          refine lv_iinc (v := x_127) (lv' := [(1, .int x_127), (0, .ref h0)]) hx hb dX6_seesName_38 hl (k := 1) rfl (by rw [ex_127]; rfl) (by decide) rfl (fun ls hl => ?_)
          refine lv_goto (tgt := 12) hx hb dX6_seesName_41 (by decide) ?_
          exact ih x_127 trivial (rgw (lo := 0) (hi := 940) h_128 (by decide) (by decide)) t12_h0_kind (by have q0 := lqe l_129; omega) H locs ls (oPsub hP [0] rfl) (hD.sub [0] (by decide) rfl) hS (lv_sub hl [1, 0] rfl)
        · skip
          have o_130 : rl 0 x_124 0 := rl_eq c_125
          have h_131 : rg (-2147483648) 0 x_124 := rl_x o_130 (rga x_124) (⟨by decide, by decide⟩ : rg 0 0 (0 : Int32)) (by decide) (by decide)
          have o_132 : rl 0 0 x_124 := rl_eq c_125.symm
          have h_133 : rg 0 0 x_124 := rl_y o_132 (⟨by decide, by decide⟩ : rg 0 0 (0 : Int32)) h_131 (by decide) (by decide)
          have h_134 : (h0_letters : Int64) = x_123 := cmp_eq ex_124 c_125
          refine lv_iconst (v := 0) hx hb dX6_seesName_36 (by decide) ?_
          exact oE_i hx hb hr (by decide) hlocks hP hD hS () [0] rfl (by decide) (Or.inl rfl) (Nat.le_of_ble_eq_true rfl) (Nat.le_of_ble_eq_true rfl) dX6_seesName_37
  refine lv_aload_n hx hb dX6_seesName_0 rfl (lv_at hl 0 rfl) ?_
  refine va_get (D := D) (ci := 6) (v := .int h0_kind) (C := RX6) (T := TX6) (N := 10) hx hb hts k2 hown hK.1 hP 0 rfl rfl 8 (by decide) k4 (fun _ h9 => h9) rfl dX6_seesName_1 ?_
  refine lv_iconst (v := 2) hx hb dX6_seesName_4 (by decide) ?_
  refine lv_icmp_eq (tgt := 10) hx hb dX6_seesName_5 (by decide) (fun c_135 => ?_) (fun c_135 => ?_)
  · skip
    have o_136 : rl 0 h0_kind 2 := rl_eq c_135
    have h_137 : rg (-2147483648) 2 h0_kind := rl_x o_136 (rga h0_kind) (⟨by decide, by decide⟩ : rg 2 2 (2 : Int32)) (by decide) (by decide)
    have o_138 : rl 0 2 h0_kind := rl_eq c_135.symm
    have h_139 : rg 2 2 h0_kind := rl_y o_138 (⟨by decide, by decide⟩ : rg 2 2 (2 : Int32)) h_137 (by decide) (by decide)
    refine lv_iconst (v := 0) hx hb dX6_seesName_10 (by decide) ?_
    refine lv_istore_n (lv' := [(1, .int 0), (0, .ref h0)]) hx hb dX6_seesName_11 rfl hl (by decide) rfl (fun ls hl => ?_)
    exact J12_98 941 0 trivial (⟨by decide, by decide⟩ : rg 0 940 (0 : Int32)) h_139 (by have q0 := (⟨by decide, by decide⟩ : rg 0 0 (0 : Int32)).1; omega) H locs ls (oPsub hP [0] rfl) (hD.sub [0] (by decide) rfl) hS (lv_sub hl [1, 0] rfl)
  · skip
    refine lv_iconst (v := 0) hx hb dX6_seesName_8 (by decide) ?_
    exact oE_i hx hb hr (by decide) hlocks hP hD hS () [0] rfl (by decide) (Or.inl rfl) (Nat.le_of_ble_eq_true rfl) (Nat.le_of_ble_eq_true rfl) dX6_seesName_9
theorem dX6_takeNewName_0 : decode cX6_takeNewName 0 = .ok (.aload_n 0, 1) := by decide +kernel
theorem dX6_takeNewName_1 : decode cX6_takeNewName 1 = .ok (.invokevirtual 84, 3) := by decide +kernel
theorem dX6_takeNewName_4 : decode cX6_takeNewName 4 = .ok (.ifCond .ne 10, 3) := by decide +kernel
theorem dX6_takeNewName_7 : decode cX6_takeNewName 7 = .ok (.aload_n 0, 1) := by decide +kernel
theorem dX6_takeNewName_8 : decode cX6_takeNewName 8 = .ok (.iconst 1, 1) := by decide +kernel
theorem dX6_takeNewName_9 : decode cX6_takeNewName 9 = .ok (.invokevirtual 80, 3) := by decide +kernel
theorem dX6_takeNewName_12 : decode cX6_takeNewName 12 = .ok (.lconst 0, 1) := by decide +kernel
theorem dX6_takeNewName_13 : decode cX6_takeNewName 13 = .ok (.lreturn, 1) := by decide +kernel
theorem dX6_takeNewName_14 : decode cX6_takeNewName 14 = .ok (.iload_n 1, 1) := by decide +kernel
theorem dX6_takeNewName_15 : decode cX6_takeNewName 15 = .ok (.ifCond .eq 10, 3) := by decide +kernel
theorem dX6_takeNewName_18 : decode cX6_takeNewName 18 = .ok (.aload_n 0, 1) := by decide +kernel
theorem dX6_takeNewName_19 : decode cX6_takeNewName 19 = .ok (.iconst 3, 1) := by decide +kernel
theorem dX6_takeNewName_20 : decode cX6_takeNewName 20 = .ok (.invokevirtual 80, 3) := by decide +kernel
theorem dX6_takeNewName_23 : decode cX6_takeNewName 23 = .ok (.lconst 0, 1) := by decide +kernel
theorem dX6_takeNewName_24 : decode cX6_takeNewName 24 = .ok (.lreturn, 1) := by decide +kernel
theorem dX6_takeNewName_25 : decode cX6_takeNewName 25 = .ok (.aload_n 0, 1) := by decide +kernel
theorem dX6_takeNewName_26 : decode cX6_takeNewName 26 = .ok (.getfield 44, 3) := by decide +kernel
theorem dX6_takeNewName_29 : decode cX6_takeNewName 29 = .ok (.lstore_n 2, 1) := by decide +kernel
theorem dX6_takeNewName_30 : decode cX6_takeNewName 30 = .ok (.aload_n 0, 1) := by decide +kernel
theorem dX6_takeNewName_31 : decode cX6_takeNewName 31 = .ok (.invokevirtual 31, 3) := by decide +kernel
theorem dX6_takeNewName_34 : decode cX6_takeNewName 34 = .ok (.lload_n 2, 1) := by decide +kernel
theorem dX6_takeNewName_35 : decode cX6_takeNewName 35 = .ok (.lreturn, 1) := by decide +kernel
set_option maxRecDepth 20000 in
theorem ggX6_takeNewName_X6_seesName : GoodIn wsX6_takeNewName wsX6_seesName := goodIn_r _ [6, 7, 1, 8, 41, 42, 43, 44, 45, 46, 47, 48, 49, 50] rfl (by decide +kernel)
set_option maxRecDepth 20000 in
theorem gX6_takeNewName_X6_seesName : GoodIn wsX6_takeNewName (wsV RX6 84 RX6 yX6_seesName wsX6_seesName) := goodIn_app (goodIn_of _ (by decide +kernel)) ggX6_takeNewName_X6_seesName
set_option maxRecDepth 20000 in
theorem ggX6_takeNewName_X6_fail : GoodIn wsX6_takeNewName wsX6_fail := goodIn_r _ [12, 13, 14, 15, 7, 1, 16, 17, 18, 5, 19, 41, 42, 43, 44, 45, 46, 47, 48, 49, 50] rfl (by decide +kernel)
set_option maxRecDepth 20000 in
theorem gX6_takeNewName_X6_fail : GoodIn wsX6_takeNewName (wsV RX6 80 RX6 yX6_fail wsX6_fail) := goodIn_app (goodIn_of _ (by decide +kernel)) ggX6_takeNewName_X6_fail
set_option maxRecDepth 20000 in
theorem ggX6_takeNewName_X6_advance : GoodIn wsX6_takeNewName wsX6_advance := goodIn_r _ [23, 24, 25, 26, 27, 28, 29, 30, 31, 1, 14, 7, 16, 17, 18, 5, 19, 13, 32, 33, 34, 35, 36, 37, 38, 39, 40, 41, 42, 43, 44, 45, 46, 47, 48, 49, 50] rfl (by decide +kernel)
set_option maxRecDepth 20000 in
theorem gX6_takeNewName_X6_advance : GoodIn wsX6_takeNewName (wsV RX6 31 RX6 yX6_advance wsX6_advance) := goodIn_app (goodIn_of _ (by decide +kernel)) ggX6_takeNewName_X6_advance
set_option maxHeartbeats 4000000 in
set_option maxRecDepth 100000 in
theorem s_X6_takeNewName_br (l : Launch) (D : va_G) (ca : Nat → ClassId) (ad : Nat → Nat) (wt : Nat) (sz : Nat) (h0 : Nat) (a1 : Int32) (h0_bytes : Nat) (h0_length : Int32) (h0_faultKind : Int32) (h0_faultAt : Int32) (h0_letters : Int64) (h0_mostBytes : Int32) (h0_behind : Int32) (h0_at : Int32) (h0_kind : Int32) (h0_number : Int32) (i_a1 : rg 0 1 a1) (i_h0_length : rg 0 940 h0_length) (i_h0_faultKind : rg 1 4 h0_faultKind) (i_h0_behind : rg 0 940 h0_behind) : sMet l yX6_takeNewName wsX6_takeNewName ({ frames := 2, cells := 0, slots := 0, locals := 41 } : Room) [.ref h0, .int a1] D ca ad wt sz [(h0, .inr (6, [.ref h0_bytes, .int h0_length, .int h0_faultKind, .int h0_faultAt, .long h0_letters, .int h0_mostBytes, .int h0_behind, .int h0_at, .int h0_kind, .int h0_number]))] (oQl D (fun (r : Int64) (u : Unit) => True) (fun (u : Unit) => [(h0, .inr (6, [.ref h0_bytes, .int h0_length, .int h0_faultKind, .int h0_faultAt, .long h0_letters, .int h0_mostBytes, .int h0_behind, .int h0_at, .int h0_kind, .int h0_number]))])) 0 0 := by
  refine sM (cc := cX6_takeNewName) (maxL := 4) (ret := (some .long)) (by decide) rfl (Nat.le_of_ble_eq_true rfl) [(0, .ref h0), (1, .int a1)] rfl ?_
  intro p e s m below meth c A H locs ls hx hb hr hml hts hown hlocks hin hK hP hD hA hS hl hZ
  have hown : s.vm.findClass RX6 = some m.cls := hown
  have hE := hZ.2.2.2.2.2.1
  have k1 := hts (.fieldLink RX6 44 "LidCourt$Reader" "letters" "J") (by decide +kernel)
  have k2 : ∀ w ∈ wsX60, w ∈ wsX6_takeNewName := fun _ h => List.mem_cons_of_mem _ (List.mem_append_right _ h)
  refine lv_aload_n hx hb dX6_takeNewName_0 rfl (lv_at hl 0 rfl) ?_
  refine oC_i (Wc := [(h0, .inr (6, [.ref h0_bytes, .int h0_length, .int h0_faultKind, .int h0_faultAt, .long h0_letters, .int h0_mostBytes, .int h0_behind, .int h0_at, .int h0_kind, .int h0_number]))]) (Wr := []) (va_runV (As := []) (rest := []) ⟨hx, hb, hml, hown, hts⟩ (s_X6_seesName l D ca ad wt H.size h0 h0_bytes h0_length h0_faultKind h0_faultAt h0_letters h0_mostBytes h0_behind h0_at h0_kind h0_number i_h0_length (rgw (lo := 0) (hi := 4) i_h0_faultKind (by decide) (by decide)) i_h0_behind) (cwV 0 hts gX6_takeNewName_X6_seesName rfl rfl rfl (by decide +kernel) ⟨Nat.le_of_ble_eq_true rfl, Nat.le_of_ble_eq_true rfl⟩) (sPV (C := RX6) hZ hS hA hK hP hD [0] rfl (by decide) 0 rfl (ci := 6) rfl rfl) rfl rfl hl.1 rfl (lv_room (Nat.le_of_ble_eq_true rfl)) dX6_takeNewName_1 ⟨Nat.le_of_ble_eq_true rfl, Nat.le_of_ble_eq_true rfl⟩) hP hD hS hA [0] [] rfl rfl (by decide) (by decide) (fun r_17 u H locs w_18 hP hD hS => ?_)
  obtain ⟨⟩ := u
  have hP : va_P D vwCl [(h0, .inr (6, [.ref h0_bytes, .int h0_length, .int h0_faultKind, .int h0_faultAt, .long h0_letters, .int h0_mostBytes, .int h0_behind, .int h0_at, .int h0_kind, .int h0_number]))] H := hP
  have hD : va_D A [(h0, .inr (6, [.ref h0_bytes, .int h0_length, .int h0_faultKind, .int h0_faultAt, .long h0_letters, .int h0_mostBytes, .int h0_behind, .int h0_at, .int h0_kind, .int h0_number]))] := hD
  try dsimp only at w_18
  rcases w_18 with h_19 | ⟨h_20, h_21⟩
  · skip
    subst h_19
    refine lv_if_ne (tgt := 14) hx hb dX6_takeNewName_4 (by decide) (fun c => absurd (by decide) c) (fun _ => ?_)
    refine lv_aload_n hx hb dX6_takeNewName_7 rfl (lv_at hl 0 rfl) ?_
    refine lv_iconst (v := 1) hx hb dX6_takeNewName_8 (by decide) ?_
    refine oC_v (Wc := [(h0, .inr (6, [.ref h0_bytes, .int h0_length, .int h0_faultKind, .int h0_faultAt, .long h0_letters, .int h0_mostBytes, .int h0_behind, .int h0_at, .int h0_kind, .int h0_number]))]) (Wr := []) (va_runV (As := [.int 1]) (rest := []) ⟨hx, hb, hml, hown, hts⟩ (s_X6_fail_br l D ca H.size h0 1 h0_bytes h0_length h0_faultKind h0_faultAt h0_letters h0_mostBytes h0_behind h0_at h0_kind h0_number (⟨by decide, by decide⟩ : rg 1 4 (1 : Int32)) i_h0_length i_h0_faultKind i_h0_behind) (cwV 1 hts gX6_takeNewName_X6_fail rfl rfl rfl (by decide +kernel) ⟨Nat.le_of_ble_eq_true rfl, Nat.le_of_ble_eq_true rfl⟩) (oPV (C := RX6) hK hP hD [0] rfl (by decide) 0 rfl (ci := 6) rfl rfl) rfl rfl hl.1 rfl (lv_room (Nat.le_of_ble_eq_true rfl)) dX6_takeNewName_9 ⟨Nat.le_of_ble_eq_true rfl, Nat.le_of_ble_eq_true rfl⟩) hP hD hS hA [0] [] rfl rfl (by decide) (by decide) (fun u H locs w_23 hP hD hS => ?_)
    obtain ⟨⟩ := u
    have hP : va_P D vwCl [(h0, .inr (6, [.ref h0_bytes, .int h0_length, .int h0_faultKind, .int h0_faultAt, .long h0_letters, .int h0_mostBytes, .int h0_behind, .int h0_at, .int h0_kind, .int h0_number]))] H := hP
    have hD : va_D A [(h0, .inr (6, [.ref h0_bytes, .int h0_length, .int h0_faultKind, .int h0_faultAt, .long h0_letters, .int h0_mostBytes, .int h0_behind, .int h0_at, .int h0_kind, .int h0_number]))] := hD
    try dsimp only at w_23
    refine lv_lconst (v := 0) hx hb dX6_takeNewName_12 (by decide) ?_
    exact oE_l hx hb hr hlocks hP hD hS () [0] rfl (by decide) trivial (Nat.le_of_ble_eq_true rfl) (Nat.le_of_ble_eq_true rfl) dX6_takeNewName_13
  · skip
    subst h_20
    refine lv_if_ne (tgt := 14) hx hb dX6_takeNewName_4 (by decide) (fun _ => ?_) (fun c => absurd c (by decide))
    refine lv_iload_n hx hb dX6_takeNewName_14 rfl (lv_at hl 1 rfl) ?_
    refine lv_if_eq (tgt := 25) hx hb dX6_takeNewName_15 (by decide) (fun c_24 => ?_) (fun c_24 => ?_)
    · skip
      have o_25 : rl 0 a1 0 := rl_eq c_24
      have h_26 : rg 0 0 a1 := rl_x o_25 i_a1 (⟨by decide, by decide⟩ : rg 0 0 (0 : Int32)) (by decide) (by decide)
      have o_27 : rl 0 0 a1 := rl_eq c_24.symm
      refine lv_aload_n hx hb dX6_takeNewName_25 rfl (lv_at hl 0 rfl) ?_
      refine va_get (D := D) (ci := 6) (v := .long h0_letters) (C := RX6) (T := TX6) (N := 10) hx hb hts k2 hown hK.1 hP 0 rfl rfl 4 (by decide) k1 (fun _ h9 => h9) rfl dX6_takeNewName_26 ?_
      refine lv_lstore_n (lv' := [(2, .long h0_letters), (0, .ref h0), (1, .int a1)]) hx hb dX6_takeNewName_29 rfl hl (by decide) rfl (fun ls hl => ?_)
      refine lv_aload_n hx hb dX6_takeNewName_30 rfl (lv_at hl 1 rfl) ?_
      refine oC_v (Wc := [(h0, .inr (6, [.ref h0_bytes, .int h0_length, .int h0_faultKind, .int h0_faultAt, .long h0_letters, .int h0_mostBytes, .int h0_behind, .int h0_at, .int h0_kind, .int h0_number]))]) (Wr := []) (va_runV (As := []) (rest := []) ⟨hx, hb, hml, hown, hts⟩ (s_X6_advance_br l D ca H.size h0 h0_bytes h0_length h0_faultKind h0_faultAt h0_letters h0_mostBytes h0_behind h0_at h0_kind h0_number i_h0_length i_h0_faultKind i_h0_behind) (cwV 0 hts gX6_takeNewName_X6_advance rfl rfl rfl (by decide +kernel) ⟨Nat.le_of_ble_eq_true rfl, Nat.le_of_ble_eq_true rfl⟩) (oPV (C := RX6) hK hP hD [0] rfl (by decide) 0 rfl (ci := 6) rfl rfl) rfl rfl hl.1 rfl (lv_room (Nat.le_of_ble_eq_true rfl)) dX6_takeNewName_31 ⟨Nat.le_of_ble_eq_true rfl, Nat.le_of_ble_eq_true rfl⟩) hP hD hS hA [0] [] rfl rfl (by decide) (by decide) (fun u H locs w_29 hP hD hS => ?_)
      obtain ⟨⟩ := u
      have hP : va_P D vwCl [(h0, .inr (6, [.ref h0_bytes, .int h0_length, .int h0_faultKind, .int h0_faultAt, .long h0_letters, .int h0_mostBytes, .int h0_behind, .int h0_at, .int h0_kind, .int h0_number]))] H := hP
      have hD : va_D A [(h0, .inr (6, [.ref h0_bytes, .int h0_length, .int h0_faultKind, .int h0_faultAt, .long h0_letters, .int h0_mostBytes, .int h0_behind, .int h0_at, .int h0_kind, .int h0_number]))] := hD
      try dsimp only at w_29
      refine lv_lload_n hx hb dX6_takeNewName_34 rfl (lv_at hl 0 rfl) ?_
      exact oE_l hx hb hr hlocks hP hD hS () [0] rfl (by decide) trivial (Nat.le_of_ble_eq_true rfl) (Nat.le_of_ble_eq_true rfl) dX6_takeNewName_35
    · skip
      have h_30 : rg 1 1 a1 := cl_nlo c_24 i_a1 (show (0 : Int32).toInt = 0 by decide) (by decide) (by decide)
      refine lv_aload_n hx hb dX6_takeNewName_18 rfl (lv_at hl 0 rfl) ?_
      refine lv_iconst (v := 3) hx hb dX6_takeNewName_19 (by decide) ?_
      refine oC_v (Wc := [(h0, .inr (6, [.ref h0_bytes, .int h0_length, .int h0_faultKind, .int h0_faultAt, .long h0_letters, .int h0_mostBytes, .int h0_behind, .int h0_at, .int h0_kind, .int h0_number]))]) (Wr := []) (va_runV (As := [.int 3]) (rest := []) ⟨hx, hb, hml, hown, hts⟩ (s_X6_fail_br l D ca H.size h0 3 h0_bytes h0_length h0_faultKind h0_faultAt h0_letters h0_mostBytes h0_behind h0_at h0_kind h0_number (⟨by decide, by decide⟩ : rg 1 4 (3 : Int32)) i_h0_length i_h0_faultKind i_h0_behind) (cwV 1 hts gX6_takeNewName_X6_fail rfl rfl rfl (by decide +kernel) ⟨Nat.le_of_ble_eq_true rfl, Nat.le_of_ble_eq_true rfl⟩) (oPV (C := RX6) hK hP hD [0] rfl (by decide) 0 rfl (ci := 6) rfl rfl) rfl rfl hl.1 rfl (lv_room (Nat.le_of_ble_eq_true rfl)) dX6_takeNewName_20 ⟨Nat.le_of_ble_eq_true rfl, Nat.le_of_ble_eq_true rfl⟩) hP hD hS hA [0] [] rfl rfl (by decide) (by decide) (fun u H locs w_32 hP hD hS => ?_)
      obtain ⟨⟩ := u
      have hP : va_P D vwCl [(h0, .inr (6, [.ref h0_bytes, .int h0_length, .int h0_faultKind, .int h0_faultAt, .long h0_letters, .int h0_mostBytes, .int h0_behind, .int h0_at, .int h0_kind, .int h0_number]))] H := hP
      have hD : va_D A [(h0, .inr (6, [.ref h0_bytes, .int h0_length, .int h0_faultKind, .int h0_faultAt, .long h0_letters, .int h0_mostBytes, .int h0_behind, .int h0_at, .int h0_kind, .int h0_number]))] := hD
      try dsimp only at w_32
      refine lv_lconst (v := 0) hx hb dX6_takeNewName_23 (by decide) ?_
      exact oE_l hx hb hr hlocks hP hD hS () [0] rfl (by decide) trivial (Nat.le_of_ble_eq_true rfl) (Nat.le_of_ble_eq_true rfl) dX6_takeNewName_24
set_option maxHeartbeats 4000000 in
set_option maxRecDepth 100000 in
theorem s_X6_takeNewName (l : Launch) (D : va_G) (ca : Nat → ClassId) (ad : Nat → Nat) (wt : Nat) (sz : Nat) (h0 : Nat) (a1 : Int32) (h0_bytes : Nat) (h0_length : Int32) (h0_faultKind : Int32) (h0_faultAt : Int32) (h0_letters : Int64) (h0_mostBytes : Int32) (h0_behind : Int32) (h0_at : Int32) (h0_kind : Int32) (h0_number : Int32) (F_h0_bytes : Nat → Int32) (i_a1 : rg 0 1 a1) (i_h0_length : rg 0 940 h0_length) (i_h0_faultKind : rg 0 4 h0_faultKind) (i_h0_behind : rg 0 940 h0_behind) (s_h0_bytes_0 : sg 0 940 0 255 F_h0_bytes) : sMet l yX6_takeNewName wsX6_takeNewName ({ frames := 2, cells := 0, slots := 0, locals := 44 } : Room) [.ref h0, .int a1] D ca ad wt sz [(h0, .inr (6, [.ref h0_bytes, .int h0_length, .int h0_faultKind, .int h0_faultAt, .long h0_letters, .int h0_mostBytes, .int h0_behind, .int h0_at, .int h0_kind, .int h0_number])), (aI ca h0_bytes 940 F_h0_bytes)] (oQl D (fun (r : Int64) (u : Int32 × Int32 × Int64 × Int32 × Int32 × Int32 × Int32) => (rg 0 4 u.1) ∧ (rg 0 940 u.2.2.2.1) ∧ (rl 0 h0_behind u.2.2.2.1) ∧ (bk h0_faultKind u.1)) (fun (u : Int32 × Int32 × Int64 × Int32 × Int32 × Int32 × Int32) => [(h0, .inr (6, [.ref h0_bytes, .int h0_length, .int u.1, .int u.2.1, .long u.2.2.1, .int h0_mostBytes, .int u.2.2.2.1, .int u.2.2.2.2.1, .int u.2.2.2.2.2.1, .int u.2.2.2.2.2.2])), (aI ca h0_bytes 940 F_h0_bytes)])) 0 0 := by
  refine sM (cc := cX6_takeNewName) (maxL := 4) (ret := (some .long)) (by decide) rfl (Nat.le_of_ble_eq_true rfl) [(0, .ref h0), (1, .int a1)] rfl ?_
  intro p e s m below meth c A H locs ls hx hb hr hml hts hown hlocks hin hK hP hD hA hS hl hZ
  have hown : s.vm.findClass RX6 = some m.cls := hown
  have hE := hZ.2.2.2.2.2.1
  have k1 := hts (.fieldLink RX6 44 "LidCourt$Reader" "letters" "J") (by decide +kernel)
  have k2 : ∀ w ∈ wsX60, w ∈ wsX6_takeNewName := fun _ h => List.mem_cons_of_mem _ (List.mem_append_right _ h)
  refine lv_aload_n hx hb dX6_takeNewName_0 rfl (lv_at hl 0 rfl) ?_
  refine oC_i (Wc := [(h0, .inr (6, [.ref h0_bytes, .int h0_length, .int h0_faultKind, .int h0_faultAt, .long h0_letters, .int h0_mostBytes, .int h0_behind, .int h0_at, .int h0_kind, .int h0_number]))]) (Wr := [(aI ca h0_bytes 940 F_h0_bytes)]) (va_runV (As := []) (rest := []) ⟨hx, hb, hml, hown, hts⟩ (s_X6_seesName l D ca ad wt H.size h0 h0_bytes h0_length h0_faultKind h0_faultAt h0_letters h0_mostBytes h0_behind h0_at h0_kind h0_number i_h0_length i_h0_faultKind i_h0_behind) (cwV 0 hts gX6_takeNewName_X6_seesName rfl rfl rfl (by decide +kernel) ⟨Nat.le_of_ble_eq_true rfl, Nat.le_of_ble_eq_true rfl⟩) (sPV (C := RX6) hZ hS hA hK hP hD [0] rfl (by decide) 0 rfl (ci := 6) rfl rfl) rfl rfl hl.1 rfl (lv_room (Nat.le_of_ble_eq_true rfl)) dX6_takeNewName_1 ⟨Nat.le_of_ble_eq_true rfl, Nat.le_of_ble_eq_true rfl⟩) hP hD hS hA [0] [1] rfl rfl (by decide) (by decide) (fun r_36 u H locs w_37 hP hD hS => ?_)
  obtain ⟨⟩ := u
  have hP : va_P D vwCl [(aI ca h0_bytes 940 F_h0_bytes), (h0, .inr (6, [.ref h0_bytes, .int h0_length, .int h0_faultKind, .int h0_faultAt, .long h0_letters, .int h0_mostBytes, .int h0_behind, .int h0_at, .int h0_kind, .int h0_number]))] H := hP
  have hD : va_D A [(aI ca h0_bytes 940 F_h0_bytes), (h0, .inr (6, [.ref h0_bytes, .int h0_length, .int h0_faultKind, .int h0_faultAt, .long h0_letters, .int h0_mostBytes, .int h0_behind, .int h0_at, .int h0_kind, .int h0_number]))] := hD
  try dsimp only at w_37
  rcases w_37 with h_38 | ⟨h_39, h_40⟩
  · skip
    subst h_38
    refine lv_if_ne (tgt := 14) hx hb dX6_takeNewName_4 (by decide) (fun c => absurd (by decide) c) (fun _ => ?_)
    refine lv_aload_n hx hb dX6_takeNewName_7 rfl (lv_at hl 0 rfl) ?_
    refine lv_iconst (v := 1) hx hb dX6_takeNewName_8 (by decide) ?_
    refine oC_v (Wc := [(h0, .inr (6, [.ref h0_bytes, .int h0_length, .int h0_faultKind, .int h0_faultAt, .long h0_letters, .int h0_mostBytes, .int h0_behind, .int h0_at, .int h0_kind, .int h0_number]))]) (Wr := [(aI ca h0_bytes 940 F_h0_bytes)]) (va_runV (As := [.int 1]) (rest := []) ⟨hx, hb, hml, hown, hts⟩ (s_X6_fail l D ca H.size h0 1 h0_bytes h0_length h0_faultKind h0_faultAt h0_letters h0_mostBytes h0_behind h0_at h0_kind h0_number (⟨by decide, by decide⟩ : rg 1 4 (1 : Int32)) i_h0_length i_h0_faultKind i_h0_behind) (cwV 1 hts gX6_takeNewName_X6_fail rfl rfl rfl (by decide +kernel) ⟨Nat.le_of_ble_eq_true rfl, Nat.le_of_ble_eq_true rfl⟩) (oPV (C := RX6) hK hP hD [1] rfl (by decide) 0 rfl (ci := 6) rfl rfl) rfl rfl hl.1 rfl (lv_room (Nat.le_of_ble_eq_true rfl)) dX6_takeNewName_9 ⟨Nat.le_of_ble_eq_true rfl, Nat.le_of_ble_eq_true rfl⟩) hP hD hS hA [1] [0] rfl rfl (by decide) (by decide) (fun u H locs w_42 hP hD hS => ?_)
    obtain ⟨u_43, u_44, u_45, u_46⟩ := u
    have hP : va_P D vwCl [(aI ca h0_bytes 940 F_h0_bytes), (h0, .inr (6, [.ref h0_bytes, .int h0_length, .int u_43, .int u_44, .long u_45, .int h0_mostBytes, .int h0_behind, .int h0_at, .int u_46, .int h0_number]))] H := hP
    have hD : va_D A [(aI ca h0_bytes 940 F_h0_bytes), (h0, .inr (6, [.ref h0_bytes, .int h0_length, .int u_43, .int u_44, .long u_45, .int h0_mostBytes, .int h0_behind, .int h0_at, .int u_46, .int h0_number]))] := hD
    try dsimp only at w_42
    obtain ⟨h_47, h_48⟩ := w_42
    refine lv_lconst (v := 0) hx hb dX6_takeNewName_12 (by decide) ?_
    exact oE_l hx hb hr hlocks hP hD hS (u_43, u_44, u_45, h0_behind, h0_at, u_46, h0_number) [1, 0] rfl (by decide) ⟨(rgw (lo := 0) (hi := 4) h_47 (by decide) (by decide)), i_h0_behind, (show rl 0 h0_behind h0_behind from rlm (by omega)), (bk_1 h_47 (by decide))⟩ (Nat.le_of_ble_eq_true rfl) (Nat.le_of_ble_eq_true rfl) dX6_takeNewName_13
  · skip
    subst h_39
    refine lv_if_ne (tgt := 14) hx hb dX6_takeNewName_4 (by decide) (fun _ => ?_) (fun c => absurd c (by decide))
    refine lv_iload_n hx hb dX6_takeNewName_14 rfl (lv_at hl 1 rfl) ?_
    refine lv_if_eq (tgt := 25) hx hb dX6_takeNewName_15 (by decide) (fun c_49 => ?_) (fun c_49 => ?_)
    · skip
      have o_50 : rl 0 a1 0 := rl_eq c_49
      have h_51 : rg 0 0 a1 := rl_x o_50 i_a1 (⟨by decide, by decide⟩ : rg 0 0 (0 : Int32)) (by decide) (by decide)
      have o_52 : rl 0 0 a1 := rl_eq c_49.symm
      refine lv_aload_n hx hb dX6_takeNewName_25 rfl (lv_at hl 0 rfl) ?_
      refine va_get (D := D) (ci := 6) (v := .long h0_letters) (C := RX6) (T := TX6) (N := 10) hx hb hts k2 hown hK.1 hP 1 rfl rfl 4 (by decide) k1 (fun _ h9 => h9) rfl dX6_takeNewName_26 ?_
      refine lv_lstore_n (lv' := [(2, .long h0_letters), (0, .ref h0), (1, .int a1)]) hx hb dX6_takeNewName_29 rfl hl (by decide) rfl (fun ls hl => ?_)
      refine lv_aload_n hx hb dX6_takeNewName_30 rfl (lv_at hl 1 rfl) ?_
      refine oC_v (Wc := [(h0, .inr (6, [.ref h0_bytes, .int h0_length, .int h0_faultKind, .int h0_faultAt, .long h0_letters, .int h0_mostBytes, .int h0_behind, .int h0_at, .int h0_kind, .int h0_number])), (aI ca h0_bytes 940 F_h0_bytes)]) (Wr := []) (va_runV (As := []) (rest := []) ⟨hx, hb, hml, hown, hts⟩ (s_X6_advance l D ca H.size h0 h0_bytes h0_length h0_faultKind h0_faultAt h0_letters h0_mostBytes h0_behind h0_at h0_kind h0_number F_h0_bytes i_h0_length i_h0_faultKind i_h0_behind s_h0_bytes_0) (cwV 0 hts gX6_takeNewName_X6_advance rfl rfl rfl (by decide +kernel) ⟨Nat.le_of_ble_eq_true rfl, Nat.le_of_ble_eq_true rfl⟩) (oPV (C := RX6) hK hP hD [1, 0] rfl (by decide) 0 rfl (ci := 6) rfl rfl) rfl rfl hl.1 rfl (lv_room (Nat.le_of_ble_eq_true rfl)) dX6_takeNewName_31 ⟨Nat.le_of_ble_eq_true rfl, Nat.le_of_ble_eq_true rfl⟩) hP hD hS hA [1, 0] [] rfl rfl (by decide) (by decide) (fun u H locs w_54 hP hD hS => ?_)
      obtain ⟨u_55, u_56, u_57, u_58, u_59⟩ := u
      have hP : va_P D vwCl [(h0, .inr (6, [.ref h0_bytes, .int h0_length, .int h0_faultKind, .int h0_faultAt, .long u_55, .int h0_mostBytes, .int u_56, .int u_57, .int u_58, .int u_59])), (aI ca h0_bytes 940 F_h0_bytes)] H := hP
      have hD : va_D A [(h0, .inr (6, [.ref h0_bytes, .int h0_length, .int h0_faultKind, .int h0_faultAt, .long u_55, .int h0_mostBytes, .int u_56, .int u_57, .int u_58, .int u_59])), (aI ca h0_bytes 940 F_h0_bytes)] := hD
      try dsimp only at w_54
      obtain ⟨h_60, h_61⟩ := w_54
      refine lv_lload_n hx hb dX6_takeNewName_34 rfl (lv_at hl 0 rfl) ?_
      exact oE_l hx hb hr hlocks hP hD hS (h0_faultKind, h0_faultAt, u_55, u_56, u_57, u_58, u_59) [0, 1] rfl (by decide) ⟨i_h0_faultKind, h_60, (show rl 0 h0_behind u_56 from rlm (by have q0 := rle h_61; omega)), (bk_rf _)⟩ (Nat.le_of_ble_eq_true rfl) (Nat.le_of_ble_eq_true rfl) dX6_takeNewName_35
    · skip
      have h_62 : rg 1 1 a1 := cl_nlo c_49 i_a1 (show (0 : Int32).toInt = 0 by decide) (by decide) (by decide)
      refine lv_aload_n hx hb dX6_takeNewName_18 rfl (lv_at hl 0 rfl) ?_
      refine lv_iconst (v := 3) hx hb dX6_takeNewName_19 (by decide) ?_
      refine oC_v (Wc := [(h0, .inr (6, [.ref h0_bytes, .int h0_length, .int h0_faultKind, .int h0_faultAt, .long h0_letters, .int h0_mostBytes, .int h0_behind, .int h0_at, .int h0_kind, .int h0_number]))]) (Wr := [(aI ca h0_bytes 940 F_h0_bytes)]) (va_runV (As := [.int 3]) (rest := []) ⟨hx, hb, hml, hown, hts⟩ (s_X6_fail l D ca H.size h0 3 h0_bytes h0_length h0_faultKind h0_faultAt h0_letters h0_mostBytes h0_behind h0_at h0_kind h0_number (⟨by decide, by decide⟩ : rg 1 4 (3 : Int32)) i_h0_length i_h0_faultKind i_h0_behind) (cwV 1 hts gX6_takeNewName_X6_fail rfl rfl rfl (by decide +kernel) ⟨Nat.le_of_ble_eq_true rfl, Nat.le_of_ble_eq_true rfl⟩) (oPV (C := RX6) hK hP hD [1] rfl (by decide) 0 rfl (ci := 6) rfl rfl) rfl rfl hl.1 rfl (lv_room (Nat.le_of_ble_eq_true rfl)) dX6_takeNewName_20 ⟨Nat.le_of_ble_eq_true rfl, Nat.le_of_ble_eq_true rfl⟩) hP hD hS hA [1] [0] rfl rfl (by decide) (by decide) (fun u H locs w_64 hP hD hS => ?_)
      obtain ⟨u_65, u_66, u_67, u_68⟩ := u
      have hP : va_P D vwCl [(aI ca h0_bytes 940 F_h0_bytes), (h0, .inr (6, [.ref h0_bytes, .int h0_length, .int u_65, .int u_66, .long u_67, .int h0_mostBytes, .int h0_behind, .int h0_at, .int u_68, .int h0_number]))] H := hP
      have hD : va_D A [(aI ca h0_bytes 940 F_h0_bytes), (h0, .inr (6, [.ref h0_bytes, .int h0_length, .int u_65, .int u_66, .long u_67, .int h0_mostBytes, .int h0_behind, .int h0_at, .int u_68, .int h0_number]))] := hD
      try dsimp only at w_64
      obtain ⟨h_69, h_70⟩ := w_64
      refine lv_lconst (v := 0) hx hb dX6_takeNewName_23 (by decide) ?_
      exact oE_l hx hb hr hlocks hP hD hS (u_65, u_66, u_67, h0_behind, h0_at, u_68, h0_number) [1, 0] rfl (by decide) ⟨(rgw (lo := 0) (hi := 4) h_69 (by decide) (by decide)), i_h0_behind, (show rl 0 h0_behind h0_behind from rlm (by omega)), (bk_1 h_69 (by decide))⟩ (Nat.le_of_ble_eq_true rfl) (Nat.le_of_ble_eq_true rfl) dX6_takeNewName_24
