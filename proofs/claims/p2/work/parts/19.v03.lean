theorem dX12_init_0 : decode cX12_init 0 = .ok (.aload_n 0, 1) := by decide +kernel
theorem dX12_init_1 : decode cX12_init 1 = .ok (.invokespecial 93, 3) := by decide +kernel
theorem dX12_init_4 : decode cX12_init 4 = .ok (.aload_n 0, 1) := by decide +kernel
theorem dX12_init_5 : decode cX12_init 5 = .ok (.sipush 940, 3) := by decide +kernel
theorem dX12_init_8 : decode cX12_init 8 = .ok (.newarray .int, 2) := by decide +kernel
theorem dX12_init_10 : decode cX12_init 10 = .ok (.putfield 7, 3) := by decide +kernel
theorem dX12_init_13 : decode cX12_init 13 = .ok (.aload_n 0, 1) := by decide +kernel
theorem dX12_init_14 : decode cX12_init 14 = .ok (.sipush 376, 3) := by decide +kernel
theorem dX12_init_17 : decode cX12_init 17 = .ok (.newarray .int, 2) := by decide +kernel
theorem dX12_init_19 : decode cX12_init 19 = .ok (.putfield 98, 3) := by decide +kernel
theorem dX12_init_22 : decode cX12_init 22 = .ok (.aload_n 0, 1) := by decide +kernel
theorem dX12_init_23 : decode cX12_init 23 = .ok (.bipush 89, 2) := by decide +kernel
theorem dX12_init_25 : decode cX12_init 25 = .ok (.newarray .int, 2) := by decide +kernel
theorem dX12_init_27 : decode cX12_init 27 = .ok (.putfield 101, 3) := by decide +kernel
theorem dX12_init_30 : decode cX12_init 30 = .ok (.aload_n 0, 1) := by decide +kernel
theorem dX12_init_31 : decode cX12_init 31 = .ok (.sipush 752, 3) := by decide +kernel
theorem dX12_init_34 : decode cX12_init 34 = .ok (.newarray .int, 2) := by decide +kernel
theorem dX12_init_36 : decode cX12_init 36 = .ok (.putfield 104, 3) := by decide +kernel
theorem dX12_init_39 : decode cX12_init 39 = .ok (.aload_n 0, 1) := by decide +kernel
theorem dX12_init_40 : decode cX12_init 40 = .ok (.sipush 360, 3) := by decide +kernel
theorem dX12_init_43 : decode cX12_init 43 = .ok (.newarray .int, 2) := by decide +kernel
theorem dX12_init_45 : decode cX12_init 45 = .ok (.putfield 107, 3) := by decide +kernel
theorem dX12_init_48 : decode cX12_init 48 = .ok (.aload_n 0, 1) := by decide +kernel
theorem dX12_init_49 : decode cX12_init 49 = .ok (.bipush 45, 2) := by decide +kernel
theorem dX12_init_51 : decode cX12_init 51 = .ok (.newarray .int, 2) := by decide +kernel
theorem dX12_init_53 : decode cX12_init 53 = .ok (.putfield 110, 3) := by decide +kernel
theorem dX12_init_56 : decode cX12_init 56 = .ok (.aload_n 0, 1) := by decide +kernel
theorem dX12_init_57 : decode cX12_init 57 = .ok (.bipush 19, 2) := by decide +kernel
theorem dX12_init_59 : decode cX12_init 59 = .ok (.newarray .long, 2) := by decide +kernel
theorem dX12_init_61 : decode cX12_init 61 = .ok (.putfield 113, 3) := by decide +kernel
theorem dX12_init_64 : decode cX12_init 64 = .ok (.aload_n 0, 1) := by decide +kernel
theorem dX12_init_65 : decode cX12_init 65 = .ok (.bipush 19, 2) := by decide +kernel
theorem dX12_init_67 : decode cX12_init 67 = .ok (.newarray .long, 2) := by decide +kernel
theorem dX12_init_69 : decode cX12_init 69 = .ok (.putfield 117, 3) := by decide +kernel
theorem dX12_init_72 : decode cX12_init 72 = .ok (.aload_n 0, 1) := by decide +kernel
theorem dX12_init_73 : decode cX12_init 73 = .ok (.bipush 38, 2) := by decide +kernel
theorem dX12_init_75 : decode cX12_init 75 = .ok (.newarray .long, 2) := by decide +kernel
theorem dX12_init_77 : decode cX12_init 77 = .ok (.putfield 120, 3) := by decide +kernel
theorem dX12_init_80 : decode cX12_init 80 = .ok (.aload_n 0, 1) := by decide +kernel
theorem dX12_init_81 : decode cX12_init 81 = .ok (.iconst 2, 1) := by decide +kernel
theorem dX12_init_82 : decode cX12_init 82 = .ok (.newarray .boolean, 2) := by decide +kernel
theorem dX12_init_84 : decode cX12_init 84 = .ok (.putfield 123, 3) := by decide +kernel
theorem dX12_init_87 : decode cX12_init 87 = .ok (.aload_n 0, 1) := by decide +kernel
theorem dX12_init_88 : decode cX12_init 88 = .ok (.iconst 2, 1) := by decide +kernel
theorem dX12_init_89 : decode cX12_init 89 = .ok (.newarray .boolean, 2) := by decide +kernel
theorem dX12_init_91 : decode cX12_init 91 = .ok (.putfield 127, 3) := by decide +kernel
theorem dX12_init_94 : decode cX12_init 94 = .ok (.aload_n 0, 1) := by decide +kernel
theorem dX12_init_95 : decode cX12_init 95 = .ok (.iconst (-1), 1) := by decide +kernel
theorem dX12_init_96 : decode cX12_init 96 = .ok (.putfield 130, 3) := by decide +kernel
theorem dX12_init_99 : decode cX12_init 99 = .ok (.aload_n 0, 1) := by decide +kernel
theorem dX12_init_100 : decode cX12_init 100 = .ok (.iconst (-1), 1) := by decide +kernel
theorem dX12_init_101 : decode cX12_init 101 = .ok (.putfield 133, 3) := by decide +kernel
theorem dX12_init_104 : decode cX12_init 104 = .ok (.aload_n 0, 1) := by decide +kernel
theorem dX12_init_105 : decode cX12_init 105 = .ok (.iconst (-1), 1) := by decide +kernel
theorem dX12_init_106 : decode cX12_init 106 = .ok (.putfield 136, 3) := by decide +kernel
theorem dX12_init_109 : decode cX12_init 109 = .ok (.aload_n 0, 1) := by decide +kernel
theorem dX12_init_110 : decode cX12_init 110 = .ok (.bipush 10, 2) := by decide +kernel
theorem dX12_init_112 : decode cX12_init 112 = .ok (.newarray .int, 2) := by decide +kernel
theorem dX12_init_114 : decode cX12_init 114 = .ok (.putfield 139, 3) := by decide +kernel
theorem dX12_init_117 : decode cX12_init 117 = .ok (.aload_n 0, 1) := by decide +kernel
theorem dX12_init_118 : decode cX12_init 118 = .ok (.iconst (-1), 1) := by decide +kernel
theorem dX12_init_119 : decode cX12_init 119 = .ok (.putfield 142, 3) := by decide +kernel
theorem dX12_init_122 : decode cX12_init 122 = .ok (.aload_n 0, 1) := by decide +kernel
theorem dX12_init_123 : decode cX12_init 123 = .ok (.iconst (-1), 1) := by decide +kernel
theorem dX12_init_124 : decode cX12_init 124 = .ok (.putfield 145, 3) := by decide +kernel
theorem dX12_init_127 : decode cX12_init 127 = .ok (.aload_n 0, 1) := by decide +kernel
theorem dX12_init_128 : decode cX12_init 128 = .ok (.sipush 1024, 3) := by decide +kernel
theorem dX12_init_131 : decode cX12_init 131 = .ok (.newarray .boolean, 2) := by decide +kernel
theorem dX12_init_133 : decode cX12_init 133 = .ok (.putfield 148, 3) := by decide +kernel
theorem dX12_init_136 : decode cX12_init 136 = .ok (.aload_n 0, 1) := by decide +kernel
theorem dX12_init_137 : decode cX12_init 137 = .ok (.iconst (-1), 1) := by decide +kernel
theorem dX12_init_138 : decode cX12_init 138 = .ok (.putfield 151, 3) := by decide +kernel
theorem dX12_init_141 : decode cX12_init 141 = .ok (.aload_n 0, 1) := by decide +kernel
theorem dX12_init_142 : decode cX12_init 142 = .ok (.iconst (-1), 1) := by decide +kernel
theorem dX12_init_143 : decode cX12_init 143 = .ok (.putfield 154, 3) := by decide +kernel
theorem dX12_init_146 : decode cX12_init 146 = .ok (.aload_n 0, 1) := by decide +kernel
theorem dX12_init_147 : decode cX12_init 147 = .ok (.bipush 64, 2) := by decide +kernel
theorem dX12_init_149 : decode cX12_init 149 = .ok (.newarray .int, 2) := by decide +kernel
theorem dX12_init_151 : decode cX12_init 151 = .ok (.putfield 157, 3) := by decide +kernel
theorem dX12_init_154 : decode cX12_init 154 = .ok (.aload_n 0, 1) := by decide +kernel
theorem dX12_init_155 : decode cX12_init 155 = .ok (.bipush 80, 2) := by decide +kernel
theorem dX12_init_157 : decode cX12_init 157 = .ok (.newarray .int, 2) := by decide +kernel
theorem dX12_init_159 : decode cX12_init 159 = .ok (.putfield 160, 3) := by decide +kernel
theorem dX12_init_162 : decode cX12_init 162 = .ok (.aload_n 0, 1) := by decide +kernel
theorem dX12_init_163 : decode cX12_init 163 = .ok (.iconst 4, 1) := by decide +kernel
theorem dX12_init_164 : decode cX12_init 164 = .ok (.newarray .int, 2) := by decide +kernel
theorem dX12_init_166 : decode cX12_init 166 = .ok (.putfield 163, 3) := by decide +kernel
theorem dX12_init_169 : decode cX12_init 169 = .ok (.aload_n 0, 1) := by decide +kernel
theorem dX12_init_170 : decode cX12_init 170 = .ok (.sipush 240, 3) := by decide +kernel
theorem dX12_init_173 : decode cX12_init 173 = .ok (.newarray .int, 2) := by decide +kernel
theorem dX12_init_175 : decode cX12_init 175 = .ok (.putfield 166, 3) := by decide +kernel
theorem dX12_init_178 : decode cX12_init 178 = .ok (.aload_n 0, 1) := by decide +kernel
theorem dX12_init_179 : decode cX12_init 179 = .ok (.invokevirtual 169, 3) := by decide +kernel
theorem dX12_init_182 : decode cX12_init 182 = .ok (.iconst 0, 1) := by decide +kernel
theorem dX12_init_183 : decode cX12_init 183 = .ok (.istore_n 1, 1) := by decide +kernel
theorem dX12_init_184 : decode cX12_init 184 = .ok (.iload_n 1, 1) := by decide +kernel
theorem dX12_init_185 : decode cX12_init 185 = .ok (.bipush 89, 2) := by decide +kernel
theorem dX12_init_187 : decode cX12_init 187 = .ok (.if_icmp .ge 21, 3) := by decide +kernel
theorem dX12_init_190 : decode cX12_init 190 = .ok (.aload_n 0, 1) := by decide +kernel
theorem dX12_init_191 : decode cX12_init 191 = .ok (.getfield 98, 3) := by decide +kernel
theorem dX12_init_194 : decode cX12_init 194 = .ok (.iload_n 1, 1) := by decide +kernel
theorem dX12_init_195 : decode cX12_init 195 = .ok (.aload_n 0, 1) := by decide +kernel
theorem dX12_init_196 : decode cX12_init 196 = .ok (.getfield 101, 3) := by decide +kernel
theorem dX12_init_199 : decode cX12_init 199 = .ok (.iload_n 1, 1) := by decide +kernel
theorem dX12_init_200 : decode cX12_init 200 = .ok (.iaload, 1) := by decide +kernel
theorem dX12_init_201 : decode cX12_init 201 = .ok (.iastore, 1) := by decide +kernel
theorem dX12_init_202 : decode cX12_init 202 = .ok (.iinc 1 1, 3) := by decide +kernel
theorem dX12_init_205 : decode cX12_init 205 = .ok (.goto (-21), 3) := by decide +kernel
theorem dX12_init_208 : decode cX12_init 208 = .ok (.aload_n 0, 1) := by decide +kernel
theorem dX12_init_209 : decode cX12_init 209 = .ok (.invokevirtual 172, 3) := by decide +kernel
theorem dX12_init_212 : decode cX12_init 212 = .ok (.return_, 1) := by decide +kernel
set_option maxRecDepth 20000 in
theorem ggX12_init_X12_startRead : GoodIn wsX12_init wsX12_startRead := goodIn_r _ [35, 7, 17, 40, 41, 42, 43, 44, 45, 46, 47, 48, 49, 50, 51, 52, 53, 54, 55, 56, 57, 58, 59, 60, 61, 62, 63, 64, 65, 66, 67, 68, 69, 70, 71, 72, 73, 74, 75, 76, 77, 78, 79, 80, 81, 82, 83, 84, 85, 86, 87] rfl (by decide +kernel)
set_option maxRecDepth 20000 in
theorem gX12_init_X12_startRead : GoodIn wsX12_init (wsV RX12 169 RX12 yX12_startRead wsX12_startRead) := goodIn_app (goodIn_of _ (by decide +kernel)) ggX12_init_X12_startRead
set_option maxRecDepth 20000 in
theorem ggX12_init_X12_startSo : GoodIn wsX12_init wsX12_startSo := goodIn_r _ [39, 6, 40, 41, 42, 43, 44, 45, 46, 47, 48, 49, 50, 51, 52, 53, 54, 55, 56, 57, 58, 59, 60, 61, 62, 63, 64, 65, 66, 67, 68, 69, 70, 71, 72, 73, 74, 75, 76, 77, 78, 79, 80, 81, 82, 83, 84, 85, 86, 87] rfl (by decide +kernel)
set_option maxRecDepth 20000 in
theorem gX12_init_X12_startSo : GoodIn wsX12_init (wsV RX12 172 RX12 yX12_startSo wsX12_startSo) := goodIn_app (goodIn_of _ (by decide +kernel)) ggX12_init_X12_startSo
set_option maxHeartbeats 4000000 in
set_option maxRecDepth 100000 in
theorem n_X12 (l : Launch) (D : va_G) (ca : Nat → ClassId) (sz : Nat) (h0 : Nat) : oMet l yX12_init wsX12_init ({ frames := 1, cells := 17, slots := 4064, locals := 21 } : Room) [.ref h0] D ca sz [(h0, .inr (11, [.int 0, .null, .int 0, .int 0, .int 0, .int 0, .int 0, .int 0, .int 0, .int 0, .int 0, .int 0, .long 0, .int 0, .null, .null, .null, .null, .null, .null, .null, .null, .null, .null, .int 0, .int 0, .int 0, .int 0, .int 0, .int 0, .null, .int 0, .int 0, .null, .int 0, .int 0, .null, .int 0, .int 0, .null, .null, .int 0, .int 0, .null, .int 0, .int 0, .int 0, .int 0]))] (oQv D (fun (u : (Nat → Nat) × (Nat → (Nat → Int32))) => (sg 0 1 0 10 (u.2 0)) ∧ (sg 1 2 0 4 (u.2 0)) ∧ (sg 2 3 0 5 (u.2 0)) ∧ (sg 35 36 0 1023 (u.2 0)) ∧ (sg 44 49 0 3 (u.2 0)) ∧ (sg 3 4 3 3 (u.2 0)) ∧ (sg 4 5 1 1 (u.2 0)) ∧ (sg 0 1 0 10 (u.2 2)) ∧ (sg 1 2 0 4 (u.2 2)) ∧ (sg 2 3 0 5 (u.2 2)) ∧ (sg 35 36 0 1023 (u.2 2)) ∧ (sg 44 49 0 3 (u.2 2)) ∧ (sg 90 91 0 1023 (u.2 2)) ∧ (sg 124 129 0 1023 (u.2 2)) ∧ (sg 135 136 0 39 (u.2 2)) ∧ (sg 136 376 0 0 (u.2 2)) ∧ (sg 0 1 0 10 (u.2 2)) ∧ (sg 1 2 0 4 (u.2 2)) ∧ (sg 2 3 0 5 (u.2 2)) ∧ (sg 3 4 3 3 (u.2 2)) ∧ (sg 4 5 1 1 (u.2 2)) ∧ (sg 35 36 0 1023 (u.2 2)) ∧ (sg 44 45 0 3 (u.2 2)) ∧ (sg 45 46 0 3 (u.2 2)) ∧ (sg 46 47 0 3 (u.2 2)) ∧ (sg 47 48 0 3 (u.2 2)) ∧ (sg 48 49 0 3 (u.2 2))) (fun (u : (Nat → Nat) × (Nat → (Nat → Int32))) => [(h0, .inr (11, [.int 0, .ref (u.1 0), .int 0, .int 0, .int 0, .int 0, .int 0, .int 0, .int 0, .int 0, .int 0, .int 0, .long 0, .int 0, .ref (u.1 16), .ref (u.1 14), .ref (u.1 1), .ref (u.1 2), .ref (u.1 3), .ref (u.1 4), .ref (u.1 5), .ref (u.1 6), .ref (u.1 7), .ref (u.1 15), .int 0, .int 0, .int 0, .int (-1), .int (-1), .int (-1), .ref (u.1 8), .int (-1), .int (-1), .ref (u.1 9), .int (-1), .int (-1), .ref (u.1 10), .int 0, .int 0, .ref (u.1 11), .ref (u.1 12), .int 0, .int 0, .ref (u.1 13), .int 0, .int 0, .int 0, .int 0])), (aI ca (u.1 0) 940 (fun _ => 0)), (aI ca (u.1 1) 752 (fun _ => 0)), (aI ca (u.1 2) 360 (fun _ => 0)), (aI ca (u.1 3) 45 (fun _ => 0)), (aJ ca (u.1 4) 19 (fun _ => 0)), (aJ ca (u.1 5) 19 (fun _ => 0)), (aJ ca (u.1 6) 38 (fun _ => 0)), (aZ ca (u.1 7) 2 (fun _ => 0)), (aI ca (u.1 8) 10 (fun _ => 0)), (aZ ca (u.1 9) 1024 (fun _ => 0)), (aI ca (u.1 10) 64 (fun _ => 0)), (aI ca (u.1 11) 80 (fun _ => 0)), (aI ca (u.1 12) 4 (fun _ => 0)), (aI ca (u.1 13) 240 (fun _ => 0)), (aI ca (u.1 14) 89 (u.2 0)), (aZ ca (u.1 15) 2 (u.2 1)), (aI ca (u.1 16) 376 (u.2 2))])) 17 4064 := by
  refine oM (cc := cX12_init) (maxL := 2) (ret := none) (by decide) rfl (Nat.le_of_ble_eq_true rfl) [(0, .ref h0)] rfl ?_
  intro p e s m below meth c A H locs ls hx hb hr hml hts hown hlocks hin hK hP hD hA hS hl
  have hown : s.vm.findClass RX12 = some m.cls := hown
  have k1 := hts (.methodLink RX12 93 objectInit) (by decide +kernel)
  have k2 := hts (.instanceMethod objectInit) (by decide +kernel)
  have k3 := hts (.code objectInit ⟨#[0xb1]⟩ 1 none) (by decide +kernel)
  have k4 := hts (.arrayClass .int) (by decide +kernel)
  have k5 := hts (.fieldLink RX12 7 "LidCourtModel" "tape" "[I") (by decide +kernel)
  have k6 : ∀ w ∈ wsX120, w ∈ wsX12_init := fun _ h => List.mem_cons_of_mem _ (List.mem_append_right _ h)
  have k7 := hts (.fieldLink RX12 98 "LidCourtModel" "now" "[I") (by decide +kernel)
  have k8 := hts (.fieldLink RX12 101 "LidCourtModel" "read" "[I") (by decide +kernel)
  have k9 := hts (.fieldLink RX12 104 "LidCourtModel" "kept" "[I") (by decide +kernel)
  have k10 := hts (.fieldLink RX12 107 "LidCourtModel" "snaps" "[I") (by decide +kernel)
  have k11 := hts (.fieldLink RX12 110 "LidCourtModel" "aside" "[I") (by decide +kernel)
  have k12 := hts (.arrayClass .long) (by decide +kernel)
  have k13 := hts (.fieldLink RX12 113 "LidCourtModel" "name" "[J") (by decide +kernel)
  have k14 := hts (.fieldLink RX12 117 "LidCourtModel" "readName" "[J") (by decide +kernel)
  have k15 := hts (.fieldLink RX12 120 "LidCourtModel" "keptName" "[J") (by decide +kernel)
  have k16 := hts (.arrayClass .boolean) (by decide +kernel)
  have k17 := hts (.fieldLink RX12 123 "LidCourtModel" "isKept" "[Z") (by decide +kernel)
  have k18 := hts (.fieldLink RX12 127 "LidCourtModel" "onces" "[Z") (by decide +kernel)
  have k19 := hts (.fieldLink RX12 130 "LidCourtModel" "agreed" "I") (by decide +kernel)
  have k20 := hts (.fieldLink RX12 133 "LidCourtModel" "jurors" "I") (by decide +kernel)
  have k21 := hts (.fieldLink RX12 136 "LidCourtModel" "panelled" "I") (by decide +kernel)
  have k22 := hts (.fieldLink RX12 139 "LidCourtModel" "inSets" "[I") (by decide +kernel)
  have k23 := hts (.fieldLink RX12 142 "LidCourtModel" "surely" "I") (by decide +kernel)
  have k24 := hts (.fieldLink RX12 145 "LidCourtModel" "asked" "I") (by decide +kernel)
  have k25 := hts (.fieldLink RX12 148 "LidCourtModel" "frees" "[Z") (by decide +kernel)
  have k26 := hts (.fieldLink RX12 151 "LidCourtModel" "struck" "I") (by decide +kernel)
  have k27 := hts (.fieldLink RX12 154 "LidCourtModel" "beating" "I") (by decide +kernel)
  have k28 := hts (.fieldLink RX12 157 "LidCourtModel" "text" "[I") (by decide +kernel)
  have k29 := hts (.fieldLink RX12 160 "LidCourtModel" "line" "[I") (by decide +kernel)
  have k30 := hts (.fieldLink RX12 163 "LidCourtModel" "written" "[I") (by decide +kernel)
  have k31 := hts (.fieldLink RX12 166 "LidCourtModel" "node" "[I") (by decide +kernel)
  refine lv_aload_n hx hb dX12_init_0 rfl (lv_at hl 0 rfl) ?_
  refine W.objInit hx hb hown k1 k2 k3 rfl (by rw [hml]; exact hl.1) rfl dX12_init_1 (Nat.le_of_ble_eq_true rfl) (Nat.le_of_ble_eq_true rfl) ?_
  refine W.eq (g2 := F0 m 4 ls []) rfl ?_
  refine lv_aload_n hx hb dX12_init_4 rfl (lv_at hl 0 rfl) ?_
  refine lv_sipush (v := 940) hx hb dX12_init_5 (by decide) ?_
  refine onewa hx hb (atype := .int) (ty := .int) k4 rfl hK hP hD hS hA 0 rfl (n := 940) (N' := 940) (940, .inl (fun _ => 0)) (fun _ => rfl) (by decide) (by decide) (by decide) (Nat.le_of_ble_eq_true rfl) (Nat.le_of_ble_eq_true rfl) dX12_init_8 (fun q_1124 H hP hD hS => ?_)
  have hP : va_P D vwCl [(h0, .inr (11, [.int 0, .null, .int 0, .int 0, .int 0, .int 0, .int 0, .int 0, .int 0, .int 0, .int 0, .int 0, .long 0, .int 0, .null, .null, .null, .null, .null, .null, .null, .null, .null, .null, .int 0, .int 0, .int 0, .int 0, .int 0, .int 0, .null, .int 0, .int 0, .null, .int 0, .int 0, .null, .int 0, .int 0, .null, .null, .int 0, .int 0, .null, .int 0, .int 0, .int 0, .int 0])), (aI ca q_1124 940 (fun _ => 0))] H := hP
  have hD : va_D A [(h0, .inr (11, [.int 0, .null, .int 0, .int 0, .int 0, .int 0, .int 0, .int 0, .int 0, .int 0, .int 0, .int 0, .long 0, .int 0, .null, .null, .null, .null, .null, .null, .null, .null, .null, .null, .int 0, .int 0, .int 0, .int 0, .int 0, .int 0, .null, .int 0, .int 0, .null, .int 0, .int 0, .null, .int 0, .int 0, .null, .null, .int 0, .int 0, .null, .int 0, .int 0, .int 0, .int 0])), (aI ca q_1124 940 (fun _ => 0))] := hD
  refine W.widen (k := 1) (n := 940) (Nat.le_of_ble_eq_true rfl) (Nat.le_of_ble_eq_true rfl) ?_
  refine va_putF (D := D) (ci := 11) (v := .ref q_1124) (ty := .array .int) (C := RX12) (T := TX12) (N := 48) hx hb hts k6 tyX12 tyX12_ok nmX12 hown hK.1 hP hD hS 0 rfl rfl 1 (by decide) k5 (fun _ h9 => h9) rfl hin rfl (by decide +kernel) rfl rfl (Nat.le_of_ble_eq_true rfl) dX12_init_10 (fun H locs hP hD hS => ?_)
  have hP : va_P D vwCl [(h0, .inr (11, [.int 0, .ref q_1124, .int 0, .int 0, .int 0, .int 0, .int 0, .int 0, .int 0, .int 0, .int 0, .int 0, .long 0, .int 0, .null, .null, .null, .null, .null, .null, .null, .null, .null, .null, .int 0, .int 0, .int 0, .int 0, .int 0, .int 0, .null, .int 0, .int 0, .null, .int 0, .int 0, .null, .int 0, .int 0, .null, .null, .int 0, .int 0, .null, .int 0, .int 0, .int 0, .int 0])), (aI ca q_1124 940 (fun _ => 0))] H := hP
  have hD : va_D A [(h0, .inr (11, [.int 0, .ref q_1124, .int 0, .int 0, .int 0, .int 0, .int 0, .int 0, .int 0, .int 0, .int 0, .int 0, .long 0, .int 0, .null, .null, .null, .null, .null, .null, .null, .null, .null, .null, .int 0, .int 0, .int 0, .int 0, .int 0, .int 0, .null, .int 0, .int 0, .null, .int 0, .int 0, .null, .int 0, .int 0, .null, .null, .int 0, .int 0, .null, .int 0, .int 0, .int 0, .int 0])), (aI ca q_1124 940 (fun _ => 0))] := hD
  refine lv_aload_n hx hb dX12_init_13 rfl (lv_at hl 0 rfl) ?_
  refine lv_sipush (v := 376) hx hb dX12_init_14 (by decide) ?_
  refine onewa hx hb (atype := .int) (ty := .int) k4 rfl hK hP hD hS hA 0 rfl (n := 376) (N' := 376) (376, .inl (fun _ => 0)) (fun _ => rfl) (by decide) (by decide) (by decide) (Nat.le_of_ble_eq_true rfl) (Nat.le_of_ble_eq_true rfl) dX12_init_17 (fun q_1125 H hP hD hS => ?_)
  have hP : va_P D vwCl [(h0, .inr (11, [.int 0, .ref q_1124, .int 0, .int 0, .int 0, .int 0, .int 0, .int 0, .int 0, .int 0, .int 0, .int 0, .long 0, .int 0, .null, .null, .null, .null, .null, .null, .null, .null, .null, .null, .int 0, .int 0, .int 0, .int 0, .int 0, .int 0, .null, .int 0, .int 0, .null, .int 0, .int 0, .null, .int 0, .int 0, .null, .null, .int 0, .int 0, .null, .int 0, .int 0, .int 0, .int 0])), (aI ca q_1124 940 (fun _ => 0)), (aI ca q_1125 376 (fun _ => 0))] H := hP
  have hD : va_D A [(h0, .inr (11, [.int 0, .ref q_1124, .int 0, .int 0, .int 0, .int 0, .int 0, .int 0, .int 0, .int 0, .int 0, .int 0, .long 0, .int 0, .null, .null, .null, .null, .null, .null, .null, .null, .null, .null, .int 0, .int 0, .int 0, .int 0, .int 0, .int 0, .null, .int 0, .int 0, .null, .int 0, .int 0, .null, .int 0, .int 0, .null, .null, .int 0, .int 0, .null, .int 0, .int 0, .int 0, .int 0])), (aI ca q_1124 940 (fun _ => 0)), (aI ca q_1125 376 (fun _ => 0))] := hD
  refine W.widen (k := 2) (n := 1316) (Nat.le_of_ble_eq_true rfl) (Nat.le_of_ble_eq_true rfl) ?_
  refine va_putF (D := D) (ci := 11) (v := .ref q_1125) (ty := .array .int) (C := RX12) (T := TX12) (N := 48) hx hb hts k6 tyX12 tyX12_ok nmX12 hown hK.1 hP hD hS 0 rfl rfl 14 (by decide) k7 (fun _ h9 => h9) rfl hin rfl (by decide +kernel) rfl rfl (Nat.le_of_ble_eq_true rfl) dX12_init_19 (fun H locs hP hD hS => ?_)
  have hP : va_P D vwCl [(h0, .inr (11, [.int 0, .ref q_1124, .int 0, .int 0, .int 0, .int 0, .int 0, .int 0, .int 0, .int 0, .int 0, .int 0, .long 0, .int 0, .ref q_1125, .null, .null, .null, .null, .null, .null, .null, .null, .null, .int 0, .int 0, .int 0, .int 0, .int 0, .int 0, .null, .int 0, .int 0, .null, .int 0, .int 0, .null, .int 0, .int 0, .null, .null, .int 0, .int 0, .null, .int 0, .int 0, .int 0, .int 0])), (aI ca q_1124 940 (fun _ => 0)), (aI ca q_1125 376 (fun _ => 0))] H := hP
  have hD : va_D A [(h0, .inr (11, [.int 0, .ref q_1124, .int 0, .int 0, .int 0, .int 0, .int 0, .int 0, .int 0, .int 0, .int 0, .int 0, .long 0, .int 0, .ref q_1125, .null, .null, .null, .null, .null, .null, .null, .null, .null, .int 0, .int 0, .int 0, .int 0, .int 0, .int 0, .null, .int 0, .int 0, .null, .int 0, .int 0, .null, .int 0, .int 0, .null, .null, .int 0, .int 0, .null, .int 0, .int 0, .int 0, .int 0])), (aI ca q_1124 940 (fun _ => 0)), (aI ca q_1125 376 (fun _ => 0))] := hD
  refine lv_aload_n hx hb dX12_init_22 rfl (lv_at hl 0 rfl) ?_
  refine lv_bipush (v := 89) hx hb dX12_init_23 (by decide) ?_
  refine onewa hx hb (atype := .int) (ty := .int) k4 rfl hK hP hD hS hA 0 rfl (n := 89) (N' := 89) (89, .inl (fun _ => 0)) (fun _ => rfl) (by decide) (by decide) (by decide) (Nat.le_of_ble_eq_true rfl) (Nat.le_of_ble_eq_true rfl) dX12_init_25 (fun q_1126 H hP hD hS => ?_)
  have hP : va_P D vwCl [(h0, .inr (11, [.int 0, .ref q_1124, .int 0, .int 0, .int 0, .int 0, .int 0, .int 0, .int 0, .int 0, .int 0, .int 0, .long 0, .int 0, .ref q_1125, .null, .null, .null, .null, .null, .null, .null, .null, .null, .int 0, .int 0, .int 0, .int 0, .int 0, .int 0, .null, .int 0, .int 0, .null, .int 0, .int 0, .null, .int 0, .int 0, .null, .null, .int 0, .int 0, .null, .int 0, .int 0, .int 0, .int 0])), (aI ca q_1124 940 (fun _ => 0)), (aI ca q_1125 376 (fun _ => 0)), (aI ca q_1126 89 (fun _ => 0))] H := hP
  have hD : va_D A [(h0, .inr (11, [.int 0, .ref q_1124, .int 0, .int 0, .int 0, .int 0, .int 0, .int 0, .int 0, .int 0, .int 0, .int 0, .long 0, .int 0, .ref q_1125, .null, .null, .null, .null, .null, .null, .null, .null, .null, .int 0, .int 0, .int 0, .int 0, .int 0, .int 0, .null, .int 0, .int 0, .null, .int 0, .int 0, .null, .int 0, .int 0, .null, .null, .int 0, .int 0, .null, .int 0, .int 0, .int 0, .int 0])), (aI ca q_1124 940 (fun _ => 0)), (aI ca q_1125 376 (fun _ => 0)), (aI ca q_1126 89 (fun _ => 0))] := hD
  refine W.widen (k := 3) (n := 1405) (Nat.le_of_ble_eq_true rfl) (Nat.le_of_ble_eq_true rfl) ?_
  refine va_putF (D := D) (ci := 11) (v := .ref q_1126) (ty := .array .int) (C := RX12) (T := TX12) (N := 48) hx hb hts k6 tyX12 tyX12_ok nmX12 hown hK.1 hP hD hS 0 rfl rfl 15 (by decide) k8 (fun _ h9 => h9) rfl hin rfl (by decide +kernel) rfl rfl (Nat.le_of_ble_eq_true rfl) dX12_init_27 (fun H locs hP hD hS => ?_)
  have hP : va_P D vwCl [(h0, .inr (11, [.int 0, .ref q_1124, .int 0, .int 0, .int 0, .int 0, .int 0, .int 0, .int 0, .int 0, .int 0, .int 0, .long 0, .int 0, .ref q_1125, .ref q_1126, .null, .null, .null, .null, .null, .null, .null, .null, .int 0, .int 0, .int 0, .int 0, .int 0, .int 0, .null, .int 0, .int 0, .null, .int 0, .int 0, .null, .int 0, .int 0, .null, .null, .int 0, .int 0, .null, .int 0, .int 0, .int 0, .int 0])), (aI ca q_1124 940 (fun _ => 0)), (aI ca q_1125 376 (fun _ => 0)), (aI ca q_1126 89 (fun _ => 0))] H := hP
  have hD : va_D A [(h0, .inr (11, [.int 0, .ref q_1124, .int 0, .int 0, .int 0, .int 0, .int 0, .int 0, .int 0, .int 0, .int 0, .int 0, .long 0, .int 0, .ref q_1125, .ref q_1126, .null, .null, .null, .null, .null, .null, .null, .null, .int 0, .int 0, .int 0, .int 0, .int 0, .int 0, .null, .int 0, .int 0, .null, .int 0, .int 0, .null, .int 0, .int 0, .null, .null, .int 0, .int 0, .null, .int 0, .int 0, .int 0, .int 0])), (aI ca q_1124 940 (fun _ => 0)), (aI ca q_1125 376 (fun _ => 0)), (aI ca q_1126 89 (fun _ => 0))] := hD
  refine lv_aload_n hx hb dX12_init_30 rfl (lv_at hl 0 rfl) ?_
  refine lv_sipush (v := 752) hx hb dX12_init_31 (by decide) ?_
  refine onewa hx hb (atype := .int) (ty := .int) k4 rfl hK hP hD hS hA 0 rfl (n := 752) (N' := 752) (752, .inl (fun _ => 0)) (fun _ => rfl) (by decide) (by decide) (by decide) (Nat.le_of_ble_eq_true rfl) (Nat.le_of_ble_eq_true rfl) dX12_init_34 (fun q_1127 H hP hD hS => ?_)
  have hP : va_P D vwCl [(h0, .inr (11, [.int 0, .ref q_1124, .int 0, .int 0, .int 0, .int 0, .int 0, .int 0, .int 0, .int 0, .int 0, .int 0, .long 0, .int 0, .ref q_1125, .ref q_1126, .null, .null, .null, .null, .null, .null, .null, .null, .int 0, .int 0, .int 0, .int 0, .int 0, .int 0, .null, .int 0, .int 0, .null, .int 0, .int 0, .null, .int 0, .int 0, .null, .null, .int 0, .int 0, .null, .int 0, .int 0, .int 0, .int 0])), (aI ca q_1124 940 (fun _ => 0)), (aI ca q_1125 376 (fun _ => 0)), (aI ca q_1126 89 (fun _ => 0)), (aI ca q_1127 752 (fun _ => 0))] H := hP
  have hD : va_D A [(h0, .inr (11, [.int 0, .ref q_1124, .int 0, .int 0, .int 0, .int 0, .int 0, .int 0, .int 0, .int 0, .int 0, .int 0, .long 0, .int 0, .ref q_1125, .ref q_1126, .null, .null, .null, .null, .null, .null, .null, .null, .int 0, .int 0, .int 0, .int 0, .int 0, .int 0, .null, .int 0, .int 0, .null, .int 0, .int 0, .null, .int 0, .int 0, .null, .null, .int 0, .int 0, .null, .int 0, .int 0, .int 0, .int 0])), (aI ca q_1124 940 (fun _ => 0)), (aI ca q_1125 376 (fun _ => 0)), (aI ca q_1126 89 (fun _ => 0)), (aI ca q_1127 752 (fun _ => 0))] := hD
  refine W.widen (k := 4) (n := 2157) (Nat.le_of_ble_eq_true rfl) (Nat.le_of_ble_eq_true rfl) ?_
  refine va_putF (D := D) (ci := 11) (v := .ref q_1127) (ty := .array .int) (C := RX12) (T := TX12) (N := 48) hx hb hts k6 tyX12 tyX12_ok nmX12 hown hK.1 hP hD hS 0 rfl rfl 16 (by decide) k9 (fun _ h9 => h9) rfl hin rfl (by decide +kernel) rfl rfl (Nat.le_of_ble_eq_true rfl) dX12_init_36 (fun H locs hP hD hS => ?_)
  have hP : va_P D vwCl [(h0, .inr (11, [.int 0, .ref q_1124, .int 0, .int 0, .int 0, .int 0, .int 0, .int 0, .int 0, .int 0, .int 0, .int 0, .long 0, .int 0, .ref q_1125, .ref q_1126, .ref q_1127, .null, .null, .null, .null, .null, .null, .null, .int 0, .int 0, .int 0, .int 0, .int 0, .int 0, .null, .int 0, .int 0, .null, .int 0, .int 0, .null, .int 0, .int 0, .null, .null, .int 0, .int 0, .null, .int 0, .int 0, .int 0, .int 0])), (aI ca q_1124 940 (fun _ => 0)), (aI ca q_1125 376 (fun _ => 0)), (aI ca q_1126 89 (fun _ => 0)), (aI ca q_1127 752 (fun _ => 0))] H := hP
  have hD : va_D A [(h0, .inr (11, [.int 0, .ref q_1124, .int 0, .int 0, .int 0, .int 0, .int 0, .int 0, .int 0, .int 0, .int 0, .int 0, .long 0, .int 0, .ref q_1125, .ref q_1126, .ref q_1127, .null, .null, .null, .null, .null, .null, .null, .int 0, .int 0, .int 0, .int 0, .int 0, .int 0, .null, .int 0, .int 0, .null, .int 0, .int 0, .null, .int 0, .int 0, .null, .null, .int 0, .int 0, .null, .int 0, .int 0, .int 0, .int 0])), (aI ca q_1124 940 (fun _ => 0)), (aI ca q_1125 376 (fun _ => 0)), (aI ca q_1126 89 (fun _ => 0)), (aI ca q_1127 752 (fun _ => 0))] := hD
  refine lv_aload_n hx hb dX12_init_39 rfl (lv_at hl 0 rfl) ?_
  refine lv_sipush (v := 360) hx hb dX12_init_40 (by decide) ?_
  refine onewa hx hb (atype := .int) (ty := .int) k4 rfl hK hP hD hS hA 0 rfl (n := 360) (N' := 360) (360, .inl (fun _ => 0)) (fun _ => rfl) (by decide) (by decide) (by decide) (Nat.le_of_ble_eq_true rfl) (Nat.le_of_ble_eq_true rfl) dX12_init_43 (fun q_1128 H hP hD hS => ?_)
  have hP : va_P D vwCl [(h0, .inr (11, [.int 0, .ref q_1124, .int 0, .int 0, .int 0, .int 0, .int 0, .int 0, .int 0, .int 0, .int 0, .int 0, .long 0, .int 0, .ref q_1125, .ref q_1126, .ref q_1127, .null, .null, .null, .null, .null, .null, .null, .int 0, .int 0, .int 0, .int 0, .int 0, .int 0, .null, .int 0, .int 0, .null, .int 0, .int 0, .null, .int 0, .int 0, .null, .null, .int 0, .int 0, .null, .int 0, .int 0, .int 0, .int 0])), (aI ca q_1124 940 (fun _ => 0)), (aI ca q_1125 376 (fun _ => 0)), (aI ca q_1126 89 (fun _ => 0)), (aI ca q_1127 752 (fun _ => 0)), (aI ca q_1128 360 (fun _ => 0))] H := hP
  have hD : va_D A [(h0, .inr (11, [.int 0, .ref q_1124, .int 0, .int 0, .int 0, .int 0, .int 0, .int 0, .int 0, .int 0, .int 0, .int 0, .long 0, .int 0, .ref q_1125, .ref q_1126, .ref q_1127, .null, .null, .null, .null, .null, .null, .null, .int 0, .int 0, .int 0, .int 0, .int 0, .int 0, .null, .int 0, .int 0, .null, .int 0, .int 0, .null, .int 0, .int 0, .null, .null, .int 0, .int 0, .null, .int 0, .int 0, .int 0, .int 0])), (aI ca q_1124 940 (fun _ => 0)), (aI ca q_1125 376 (fun _ => 0)), (aI ca q_1126 89 (fun _ => 0)), (aI ca q_1127 752 (fun _ => 0)), (aI ca q_1128 360 (fun _ => 0))] := hD
  refine W.widen (k := 5) (n := 2517) (Nat.le_of_ble_eq_true rfl) (Nat.le_of_ble_eq_true rfl) ?_
  refine va_putF (D := D) (ci := 11) (v := .ref q_1128) (ty := .array .int) (C := RX12) (T := TX12) (N := 48) hx hb hts k6 tyX12 tyX12_ok nmX12 hown hK.1 hP hD hS 0 rfl rfl 17 (by decide) k10 (fun _ h9 => h9) rfl hin rfl (by decide +kernel) rfl rfl (Nat.le_of_ble_eq_true rfl) dX12_init_45 (fun H locs hP hD hS => ?_)
  have hP : va_P D vwCl [(h0, .inr (11, [.int 0, .ref q_1124, .int 0, .int 0, .int 0, .int 0, .int 0, .int 0, .int 0, .int 0, .int 0, .int 0, .long 0, .int 0, .ref q_1125, .ref q_1126, .ref q_1127, .ref q_1128, .null, .null, .null, .null, .null, .null, .int 0, .int 0, .int 0, .int 0, .int 0, .int 0, .null, .int 0, .int 0, .null, .int 0, .int 0, .null, .int 0, .int 0, .null, .null, .int 0, .int 0, .null, .int 0, .int 0, .int 0, .int 0])), (aI ca q_1124 940 (fun _ => 0)), (aI ca q_1125 376 (fun _ => 0)), (aI ca q_1126 89 (fun _ => 0)), (aI ca q_1127 752 (fun _ => 0)), (aI ca q_1128 360 (fun _ => 0))] H := hP
  have hD : va_D A [(h0, .inr (11, [.int 0, .ref q_1124, .int 0, .int 0, .int 0, .int 0, .int 0, .int 0, .int 0, .int 0, .int 0, .int 0, .long 0, .int 0, .ref q_1125, .ref q_1126, .ref q_1127, .ref q_1128, .null, .null, .null, .null, .null, .null, .int 0, .int 0, .int 0, .int 0, .int 0, .int 0, .null, .int 0, .int 0, .null, .int 0, .int 0, .null, .int 0, .int 0, .null, .null, .int 0, .int 0, .null, .int 0, .int 0, .int 0, .int 0])), (aI ca q_1124 940 (fun _ => 0)), (aI ca q_1125 376 (fun _ => 0)), (aI ca q_1126 89 (fun _ => 0)), (aI ca q_1127 752 (fun _ => 0)), (aI ca q_1128 360 (fun _ => 0))] := hD
  refine lv_aload_n hx hb dX12_init_48 rfl (lv_at hl 0 rfl) ?_
  refine lv_bipush (v := 45) hx hb dX12_init_49 (by decide) ?_
  refine onewa hx hb (atype := .int) (ty := .int) k4 rfl hK hP hD hS hA 0 rfl (n := 45) (N' := 45) (45, .inl (fun _ => 0)) (fun _ => rfl) (by decide) (by decide) (by decide) (Nat.le_of_ble_eq_true rfl) (Nat.le_of_ble_eq_true rfl) dX12_init_51 (fun q_1129 H hP hD hS => ?_)
  have hP : va_P D vwCl [(h0, .inr (11, [.int 0, .ref q_1124, .int 0, .int 0, .int 0, .int 0, .int 0, .int 0, .int 0, .int 0, .int 0, .int 0, .long 0, .int 0, .ref q_1125, .ref q_1126, .ref q_1127, .ref q_1128, .null, .null, .null, .null, .null, .null, .int 0, .int 0, .int 0, .int 0, .int 0, .int 0, .null, .int 0, .int 0, .null, .int 0, .int 0, .null, .int 0, .int 0, .null, .null, .int 0, .int 0, .null, .int 0, .int 0, .int 0, .int 0])), (aI ca q_1124 940 (fun _ => 0)), (aI ca q_1125 376 (fun _ => 0)), (aI ca q_1126 89 (fun _ => 0)), (aI ca q_1127 752 (fun _ => 0)), (aI ca q_1128 360 (fun _ => 0)), (aI ca q_1129 45 (fun _ => 0))] H := hP
  have hD : va_D A [(h0, .inr (11, [.int 0, .ref q_1124, .int 0, .int 0, .int 0, .int 0, .int 0, .int 0, .int 0, .int 0, .int 0, .int 0, .long 0, .int 0, .ref q_1125, .ref q_1126, .ref q_1127, .ref q_1128, .null, .null, .null, .null, .null, .null, .int 0, .int 0, .int 0, .int 0, .int 0, .int 0, .null, .int 0, .int 0, .null, .int 0, .int 0, .null, .int 0, .int 0, .null, .null, .int 0, .int 0, .null, .int 0, .int 0, .int 0, .int 0])), (aI ca q_1124 940 (fun _ => 0)), (aI ca q_1125 376 (fun _ => 0)), (aI ca q_1126 89 (fun _ => 0)), (aI ca q_1127 752 (fun _ => 0)), (aI ca q_1128 360 (fun _ => 0)), (aI ca q_1129 45 (fun _ => 0))] := hD
  refine W.widen (k := 6) (n := 2562) (Nat.le_of_ble_eq_true rfl) (Nat.le_of_ble_eq_true rfl) ?_
  refine va_putF (D := D) (ci := 11) (v := .ref q_1129) (ty := .array .int) (C := RX12) (T := TX12) (N := 48) hx hb hts k6 tyX12 tyX12_ok nmX12 hown hK.1 hP hD hS 0 rfl rfl 18 (by decide) k11 (fun _ h9 => h9) rfl hin rfl (by decide +kernel) rfl rfl (Nat.le_of_ble_eq_true rfl) dX12_init_53 (fun H locs hP hD hS => ?_)
  have hP : va_P D vwCl [(h0, .inr (11, [.int 0, .ref q_1124, .int 0, .int 0, .int 0, .int 0, .int 0, .int 0, .int 0, .int 0, .int 0, .int 0, .long 0, .int 0, .ref q_1125, .ref q_1126, .ref q_1127, .ref q_1128, .ref q_1129, .null, .null, .null, .null, .null, .int 0, .int 0, .int 0, .int 0, .int 0, .int 0, .null, .int 0, .int 0, .null, .int 0, .int 0, .null, .int 0, .int 0, .null, .null, .int 0, .int 0, .null, .int 0, .int 0, .int 0, .int 0])), (aI ca q_1124 940 (fun _ => 0)), (aI ca q_1125 376 (fun _ => 0)), (aI ca q_1126 89 (fun _ => 0)), (aI ca q_1127 752 (fun _ => 0)), (aI ca q_1128 360 (fun _ => 0)), (aI ca q_1129 45 (fun _ => 0))] H := hP
  have hD : va_D A [(h0, .inr (11, [.int 0, .ref q_1124, .int 0, .int 0, .int 0, .int 0, .int 0, .int 0, .int 0, .int 0, .int 0, .int 0, .long 0, .int 0, .ref q_1125, .ref q_1126, .ref q_1127, .ref q_1128, .ref q_1129, .null, .null, .null, .null, .null, .int 0, .int 0, .int 0, .int 0, .int 0, .int 0, .null, .int 0, .int 0, .null, .int 0, .int 0, .null, .int 0, .int 0, .null, .null, .int 0, .int 0, .null, .int 0, .int 0, .int 0, .int 0])), (aI ca q_1124 940 (fun _ => 0)), (aI ca q_1125 376 (fun _ => 0)), (aI ca q_1126 89 (fun _ => 0)), (aI ca q_1127 752 (fun _ => 0)), (aI ca q_1128 360 (fun _ => 0)), (aI ca q_1129 45 (fun _ => 0))] := hD
  refine lv_aload_n hx hb dX12_init_56 rfl (lv_at hl 0 rfl) ?_
  refine lv_bipush (v := 19) hx hb dX12_init_57 (by decide) ?_
  refine onewa hx hb (atype := .long) (ty := .long) k12 rfl hK hP hD hS hA 1 rfl (n := 19) (N' := 19) (19, .inr (.inl (fun _ => 0))) (fun _ => rfl) (by decide) (by decide) (by decide) (Nat.le_of_ble_eq_true rfl) (Nat.le_of_ble_eq_true rfl) dX12_init_59 (fun q_1130 H hP hD hS => ?_)
  have hP : va_P D vwCl [(h0, .inr (11, [.int 0, .ref q_1124, .int 0, .int 0, .int 0, .int 0, .int 0, .int 0, .int 0, .int 0, .int 0, .int 0, .long 0, .int 0, .ref q_1125, .ref q_1126, .ref q_1127, .ref q_1128, .ref q_1129, .null, .null, .null, .null, .null, .int 0, .int 0, .int 0, .int 0, .int 0, .int 0, .null, .int 0, .int 0, .null, .int 0, .int 0, .null, .int 0, .int 0, .null, .null, .int 0, .int 0, .null, .int 0, .int 0, .int 0, .int 0])), (aI ca q_1124 940 (fun _ => 0)), (aI ca q_1125 376 (fun _ => 0)), (aI ca q_1126 89 (fun _ => 0)), (aI ca q_1127 752 (fun _ => 0)), (aI ca q_1128 360 (fun _ => 0)), (aI ca q_1129 45 (fun _ => 0)), (aJ ca q_1130 19 (fun _ => 0))] H := hP
  have hD : va_D A [(h0, .inr (11, [.int 0, .ref q_1124, .int 0, .int 0, .int 0, .int 0, .int 0, .int 0, .int 0, .int 0, .int 0, .int 0, .long 0, .int 0, .ref q_1125, .ref q_1126, .ref q_1127, .ref q_1128, .ref q_1129, .null, .null, .null, .null, .null, .int 0, .int 0, .int 0, .int 0, .int 0, .int 0, .null, .int 0, .int 0, .null, .int 0, .int 0, .null, .int 0, .int 0, .null, .null, .int 0, .int 0, .null, .int 0, .int 0, .int 0, .int 0])), (aI ca q_1124 940 (fun _ => 0)), (aI ca q_1125 376 (fun _ => 0)), (aI ca q_1126 89 (fun _ => 0)), (aI ca q_1127 752 (fun _ => 0)), (aI ca q_1128 360 (fun _ => 0)), (aI ca q_1129 45 (fun _ => 0)), (aJ ca q_1130 19 (fun _ => 0))] := hD
  refine W.widen (k := 7) (n := 2581) (Nat.le_of_ble_eq_true rfl) (Nat.le_of_ble_eq_true rfl) ?_
  refine va_putF (D := D) (ci := 11) (v := .ref q_1130) (ty := .array .long) (C := RX12) (T := TX12) (N := 48) hx hb hts k6 tyX12 tyX12_ok nmX12 hown hK.1 hP hD hS 0 rfl rfl 19 (by decide) k13 (fun _ h9 => h9) rfl hin rfl (by decide +kernel) rfl rfl (Nat.le_of_ble_eq_true rfl) dX12_init_61 (fun H locs hP hD hS => ?_)
  have hP : va_P D vwCl [(h0, .inr (11, [.int 0, .ref q_1124, .int 0, .int 0, .int 0, .int 0, .int 0, .int 0, .int 0, .int 0, .int 0, .int 0, .long 0, .int 0, .ref q_1125, .ref q_1126, .ref q_1127, .ref q_1128, .ref q_1129, .ref q_1130, .null, .null, .null, .null, .int 0, .int 0, .int 0, .int 0, .int 0, .int 0, .null, .int 0, .int 0, .null, .int 0, .int 0, .null, .int 0, .int 0, .null, .null, .int 0, .int 0, .null, .int 0, .int 0, .int 0, .int 0])), (aI ca q_1124 940 (fun _ => 0)), (aI ca q_1125 376 (fun _ => 0)), (aI ca q_1126 89 (fun _ => 0)), (aI ca q_1127 752 (fun _ => 0)), (aI ca q_1128 360 (fun _ => 0)), (aI ca q_1129 45 (fun _ => 0)), (aJ ca q_1130 19 (fun _ => 0))] H := hP
  have hD : va_D A [(h0, .inr (11, [.int 0, .ref q_1124, .int 0, .int 0, .int 0, .int 0, .int 0, .int 0, .int 0, .int 0, .int 0, .int 0, .long 0, .int 0, .ref q_1125, .ref q_1126, .ref q_1127, .ref q_1128, .ref q_1129, .ref q_1130, .null, .null, .null, .null, .int 0, .int 0, .int 0, .int 0, .int 0, .int 0, .null, .int 0, .int 0, .null, .int 0, .int 0, .null, .int 0, .int 0, .null, .null, .int 0, .int 0, .null, .int 0, .int 0, .int 0, .int 0])), (aI ca q_1124 940 (fun _ => 0)), (aI ca q_1125 376 (fun _ => 0)), (aI ca q_1126 89 (fun _ => 0)), (aI ca q_1127 752 (fun _ => 0)), (aI ca q_1128 360 (fun _ => 0)), (aI ca q_1129 45 (fun _ => 0)), (aJ ca q_1130 19 (fun _ => 0))] := hD
  refine lv_aload_n hx hb dX12_init_64 rfl (lv_at hl 0 rfl) ?_
  refine lv_bipush (v := 19) hx hb dX12_init_65 (by decide) ?_
  refine onewa hx hb (atype := .long) (ty := .long) k12 rfl hK hP hD hS hA 1 rfl (n := 19) (N' := 19) (19, .inr (.inl (fun _ => 0))) (fun _ => rfl) (by decide) (by decide) (by decide) (Nat.le_of_ble_eq_true rfl) (Nat.le_of_ble_eq_true rfl) dX12_init_67 (fun q_1131 H hP hD hS => ?_)
  have hP : va_P D vwCl [(h0, .inr (11, [.int 0, .ref q_1124, .int 0, .int 0, .int 0, .int 0, .int 0, .int 0, .int 0, .int 0, .int 0, .int 0, .long 0, .int 0, .ref q_1125, .ref q_1126, .ref q_1127, .ref q_1128, .ref q_1129, .ref q_1130, .null, .null, .null, .null, .int 0, .int 0, .int 0, .int 0, .int 0, .int 0, .null, .int 0, .int 0, .null, .int 0, .int 0, .null, .int 0, .int 0, .null, .null, .int 0, .int 0, .null, .int 0, .int 0, .int 0, .int 0])), (aI ca q_1124 940 (fun _ => 0)), (aI ca q_1125 376 (fun _ => 0)), (aI ca q_1126 89 (fun _ => 0)), (aI ca q_1127 752 (fun _ => 0)), (aI ca q_1128 360 (fun _ => 0)), (aI ca q_1129 45 (fun _ => 0)), (aJ ca q_1130 19 (fun _ => 0)), (aJ ca q_1131 19 (fun _ => 0))] H := hP
  have hD : va_D A [(h0, .inr (11, [.int 0, .ref q_1124, .int 0, .int 0, .int 0, .int 0, .int 0, .int 0, .int 0, .int 0, .int 0, .int 0, .long 0, .int 0, .ref q_1125, .ref q_1126, .ref q_1127, .ref q_1128, .ref q_1129, .ref q_1130, .null, .null, .null, .null, .int 0, .int 0, .int 0, .int 0, .int 0, .int 0, .null, .int 0, .int 0, .null, .int 0, .int 0, .null, .int 0, .int 0, .null, .null, .int 0, .int 0, .null, .int 0, .int 0, .int 0, .int 0])), (aI ca q_1124 940 (fun _ => 0)), (aI ca q_1125 376 (fun _ => 0)), (aI ca q_1126 89 (fun _ => 0)), (aI ca q_1127 752 (fun _ => 0)), (aI ca q_1128 360 (fun _ => 0)), (aI ca q_1129 45 (fun _ => 0)), (aJ ca q_1130 19 (fun _ => 0)), (aJ ca q_1131 19 (fun _ => 0))] := hD
  refine W.widen (k := 8) (n := 2600) (Nat.le_of_ble_eq_true rfl) (Nat.le_of_ble_eq_true rfl) ?_
  refine va_putF (D := D) (ci := 11) (v := .ref q_1131) (ty := .array .long) (C := RX12) (T := TX12) (N := 48) hx hb hts k6 tyX12 tyX12_ok nmX12 hown hK.1 hP hD hS 0 rfl rfl 20 (by decide) k14 (fun _ h9 => h9) rfl hin rfl (by decide +kernel) rfl rfl (Nat.le_of_ble_eq_true rfl) dX12_init_69 (fun H locs hP hD hS => ?_)
  have hP : va_P D vwCl [(h0, .inr (11, [.int 0, .ref q_1124, .int 0, .int 0, .int 0, .int 0, .int 0, .int 0, .int 0, .int 0, .int 0, .int 0, .long 0, .int 0, .ref q_1125, .ref q_1126, .ref q_1127, .ref q_1128, .ref q_1129, .ref q_1130, .ref q_1131, .null, .null, .null, .int 0, .int 0, .int 0, .int 0, .int 0, .int 0, .null, .int 0, .int 0, .null, .int 0, .int 0, .null, .int 0, .int 0, .null, .null, .int 0, .int 0, .null, .int 0, .int 0, .int 0, .int 0])), (aI ca q_1124 940 (fun _ => 0)), (aI ca q_1125 376 (fun _ => 0)), (aI ca q_1126 89 (fun _ => 0)), (aI ca q_1127 752 (fun _ => 0)), (aI ca q_1128 360 (fun _ => 0)), (aI ca q_1129 45 (fun _ => 0)), (aJ ca q_1130 19 (fun _ => 0)), (aJ ca q_1131 19 (fun _ => 0))] H := hP
  have hD : va_D A [(h0, .inr (11, [.int 0, .ref q_1124, .int 0, .int 0, .int 0, .int 0, .int 0, .int 0, .int 0, .int 0, .int 0, .int 0, .long 0, .int 0, .ref q_1125, .ref q_1126, .ref q_1127, .ref q_1128, .ref q_1129, .ref q_1130, .ref q_1131, .null, .null, .null, .int 0, .int 0, .int 0, .int 0, .int 0, .int 0, .null, .int 0, .int 0, .null, .int 0, .int 0, .null, .int 0, .int 0, .null, .null, .int 0, .int 0, .null, .int 0, .int 0, .int 0, .int 0])), (aI ca q_1124 940 (fun _ => 0)), (aI ca q_1125 376 (fun _ => 0)), (aI ca q_1126 89 (fun _ => 0)), (aI ca q_1127 752 (fun _ => 0)), (aI ca q_1128 360 (fun _ => 0)), (aI ca q_1129 45 (fun _ => 0)), (aJ ca q_1130 19 (fun _ => 0)), (aJ ca q_1131 19 (fun _ => 0))] := hD
  refine lv_aload_n hx hb dX12_init_72 rfl (lv_at hl 0 rfl) ?_
  refine lv_bipush (v := 38) hx hb dX12_init_73 (by decide) ?_
  refine onewa hx hb (atype := .long) (ty := .long) k12 rfl hK hP hD hS hA 1 rfl (n := 38) (N' := 38) (38, .inr (.inl (fun _ => 0))) (fun _ => rfl) (by decide) (by decide) (by decide) (Nat.le_of_ble_eq_true rfl) (Nat.le_of_ble_eq_true rfl) dX12_init_75 (fun q_1132 H hP hD hS => ?_)
  have hP : va_P D vwCl [(h0, .inr (11, [.int 0, .ref q_1124, .int 0, .int 0, .int 0, .int 0, .int 0, .int 0, .int 0, .int 0, .int 0, .int 0, .long 0, .int 0, .ref q_1125, .ref q_1126, .ref q_1127, .ref q_1128, .ref q_1129, .ref q_1130, .ref q_1131, .null, .null, .null, .int 0, .int 0, .int 0, .int 0, .int 0, .int 0, .null, .int 0, .int 0, .null, .int 0, .int 0, .null, .int 0, .int 0, .null, .null, .int 0, .int 0, .null, .int 0, .int 0, .int 0, .int 0])), (aI ca q_1124 940 (fun _ => 0)), (aI ca q_1125 376 (fun _ => 0)), (aI ca q_1126 89 (fun _ => 0)), (aI ca q_1127 752 (fun _ => 0)), (aI ca q_1128 360 (fun _ => 0)), (aI ca q_1129 45 (fun _ => 0)), (aJ ca q_1130 19 (fun _ => 0)), (aJ ca q_1131 19 (fun _ => 0)), (aJ ca q_1132 38 (fun _ => 0))] H := hP
  have hD : va_D A [(h0, .inr (11, [.int 0, .ref q_1124, .int 0, .int 0, .int 0, .int 0, .int 0, .int 0, .int 0, .int 0, .int 0, .int 0, .long 0, .int 0, .ref q_1125, .ref q_1126, .ref q_1127, .ref q_1128, .ref q_1129, .ref q_1130, .ref q_1131, .null, .null, .null, .int 0, .int 0, .int 0, .int 0, .int 0, .int 0, .null, .int 0, .int 0, .null, .int 0, .int 0, .null, .int 0, .int 0, .null, .null, .int 0, .int 0, .null, .int 0, .int 0, .int 0, .int 0])), (aI ca q_1124 940 (fun _ => 0)), (aI ca q_1125 376 (fun _ => 0)), (aI ca q_1126 89 (fun _ => 0)), (aI ca q_1127 752 (fun _ => 0)), (aI ca q_1128 360 (fun _ => 0)), (aI ca q_1129 45 (fun _ => 0)), (aJ ca q_1130 19 (fun _ => 0)), (aJ ca q_1131 19 (fun _ => 0)), (aJ ca q_1132 38 (fun _ => 0))] := hD
  refine W.widen (k := 9) (n := 2638) (Nat.le_of_ble_eq_true rfl) (Nat.le_of_ble_eq_true rfl) ?_
  refine va_putF (D := D) (ci := 11) (v := .ref q_1132) (ty := .array .long) (C := RX12) (T := TX12) (N := 48) hx hb hts k6 tyX12 tyX12_ok nmX12 hown hK.1 hP hD hS 0 rfl rfl 21 (by decide) k15 (fun _ h9 => h9) rfl hin rfl (by decide +kernel) rfl rfl (Nat.le_of_ble_eq_true rfl) dX12_init_77 (fun H locs hP hD hS => ?_)
  have hP : va_P D vwCl [(h0, .inr (11, [.int 0, .ref q_1124, .int 0, .int 0, .int 0, .int 0, .int 0, .int 0, .int 0, .int 0, .int 0, .int 0, .long 0, .int 0, .ref q_1125, .ref q_1126, .ref q_1127, .ref q_1128, .ref q_1129, .ref q_1130, .ref q_1131, .ref q_1132, .null, .null, .int 0, .int 0, .int 0, .int 0, .int 0, .int 0, .null, .int 0, .int 0, .null, .int 0, .int 0, .null, .int 0, .int 0, .null, .null, .int 0, .int 0, .null, .int 0, .int 0, .int 0, .int 0])), (aI ca q_1124 940 (fun _ => 0)), (aI ca q_1125 376 (fun _ => 0)), (aI ca q_1126 89 (fun _ => 0)), (aI ca q_1127 752 (fun _ => 0)), (aI ca q_1128 360 (fun _ => 0)), (aI ca q_1129 45 (fun _ => 0)), (aJ ca q_1130 19 (fun _ => 0)), (aJ ca q_1131 19 (fun _ => 0)), (aJ ca q_1132 38 (fun _ => 0))] H := hP
  have hD : va_D A [(h0, .inr (11, [.int 0, .ref q_1124, .int 0, .int 0, .int 0, .int 0, .int 0, .int 0, .int 0, .int 0, .int 0, .int 0, .long 0, .int 0, .ref q_1125, .ref q_1126, .ref q_1127, .ref q_1128, .ref q_1129, .ref q_1130, .ref q_1131, .ref q_1132, .null, .null, .int 0, .int 0, .int 0, .int 0, .int 0, .int 0, .null, .int 0, .int 0, .null, .int 0, .int 0, .null, .int 0, .int 0, .null, .null, .int 0, .int 0, .null, .int 0, .int 0, .int 0, .int 0])), (aI ca q_1124 940 (fun _ => 0)), (aI ca q_1125 376 (fun _ => 0)), (aI ca q_1126 89 (fun _ => 0)), (aI ca q_1127 752 (fun _ => 0)), (aI ca q_1128 360 (fun _ => 0)), (aI ca q_1129 45 (fun _ => 0)), (aJ ca q_1130 19 (fun _ => 0)), (aJ ca q_1131 19 (fun _ => 0)), (aJ ca q_1132 38 (fun _ => 0))] := hD
  refine lv_aload_n hx hb dX12_init_80 rfl (lv_at hl 0 rfl) ?_
  refine lv_iconst (v := 2) hx hb dX12_init_81 (by decide) ?_
  refine onewa hx hb (atype := .boolean) (ty := .boolean) k16 rfl hK hP hD hS hA 2 rfl (n := 2) (N' := 2) (2, .inl (fun _ => 0)) (fun _ => rfl) (by decide) (by decide) (by decide) (Nat.le_of_ble_eq_true rfl) (Nat.le_of_ble_eq_true rfl) dX12_init_82 (fun q_1133 H hP hD hS => ?_)
  have hP : va_P D vwCl [(h0, .inr (11, [.int 0, .ref q_1124, .int 0, .int 0, .int 0, .int 0, .int 0, .int 0, .int 0, .int 0, .int 0, .int 0, .long 0, .int 0, .ref q_1125, .ref q_1126, .ref q_1127, .ref q_1128, .ref q_1129, .ref q_1130, .ref q_1131, .ref q_1132, .null, .null, .int 0, .int 0, .int 0, .int 0, .int 0, .int 0, .null, .int 0, .int 0, .null, .int 0, .int 0, .null, .int 0, .int 0, .null, .null, .int 0, .int 0, .null, .int 0, .int 0, .int 0, .int 0])), (aI ca q_1124 940 (fun _ => 0)), (aI ca q_1125 376 (fun _ => 0)), (aI ca q_1126 89 (fun _ => 0)), (aI ca q_1127 752 (fun _ => 0)), (aI ca q_1128 360 (fun _ => 0)), (aI ca q_1129 45 (fun _ => 0)), (aJ ca q_1130 19 (fun _ => 0)), (aJ ca q_1131 19 (fun _ => 0)), (aJ ca q_1132 38 (fun _ => 0)), (aZ ca q_1133 2 (fun _ => 0))] H := hP
  have hD : va_D A [(h0, .inr (11, [.int 0, .ref q_1124, .int 0, .int 0, .int 0, .int 0, .int 0, .int 0, .int 0, .int 0, .int 0, .int 0, .long 0, .int 0, .ref q_1125, .ref q_1126, .ref q_1127, .ref q_1128, .ref q_1129, .ref q_1130, .ref q_1131, .ref q_1132, .null, .null, .int 0, .int 0, .int 0, .int 0, .int 0, .int 0, .null, .int 0, .int 0, .null, .int 0, .int 0, .null, .int 0, .int 0, .null, .null, .int 0, .int 0, .null, .int 0, .int 0, .int 0, .int 0])), (aI ca q_1124 940 (fun _ => 0)), (aI ca q_1125 376 (fun _ => 0)), (aI ca q_1126 89 (fun _ => 0)), (aI ca q_1127 752 (fun _ => 0)), (aI ca q_1128 360 (fun _ => 0)), (aI ca q_1129 45 (fun _ => 0)), (aJ ca q_1130 19 (fun _ => 0)), (aJ ca q_1131 19 (fun _ => 0)), (aJ ca q_1132 38 (fun _ => 0)), (aZ ca q_1133 2 (fun _ => 0))] := hD
  refine W.widen (k := 10) (n := 2640) (Nat.le_of_ble_eq_true rfl) (Nat.le_of_ble_eq_true rfl) ?_
  refine va_putF (D := D) (ci := 11) (v := .ref q_1133) (ty := .array .boolean) (C := RX12) (T := TX12) (N := 48) hx hb hts k6 tyX12 tyX12_ok nmX12 hown hK.1 hP hD hS 0 rfl rfl 22 (by decide) k17 (fun _ h9 => h9) rfl hin rfl (by decide +kernel) rfl rfl (Nat.le_of_ble_eq_true rfl) dX12_init_84 (fun H locs hP hD hS => ?_)
  have hP : va_P D vwCl [(h0, .inr (11, [.int 0, .ref q_1124, .int 0, .int 0, .int 0, .int 0, .int 0, .int 0, .int 0, .int 0, .int 0, .int 0, .long 0, .int 0, .ref q_1125, .ref q_1126, .ref q_1127, .ref q_1128, .ref q_1129, .ref q_1130, .ref q_1131, .ref q_1132, .ref q_1133, .null, .int 0, .int 0, .int 0, .int 0, .int 0, .int 0, .null, .int 0, .int 0, .null, .int 0, .int 0, .null, .int 0, .int 0, .null, .null, .int 0, .int 0, .null, .int 0, .int 0, .int 0, .int 0])), (aI ca q_1124 940 (fun _ => 0)), (aI ca q_1125 376 (fun _ => 0)), (aI ca q_1126 89 (fun _ => 0)), (aI ca q_1127 752 (fun _ => 0)), (aI ca q_1128 360 (fun _ => 0)), (aI ca q_1129 45 (fun _ => 0)), (aJ ca q_1130 19 (fun _ => 0)), (aJ ca q_1131 19 (fun _ => 0)), (aJ ca q_1132 38 (fun _ => 0)), (aZ ca q_1133 2 (fun _ => 0))] H := hP
  have hD : va_D A [(h0, .inr (11, [.int 0, .ref q_1124, .int 0, .int 0, .int 0, .int 0, .int 0, .int 0, .int 0, .int 0, .int 0, .int 0, .long 0, .int 0, .ref q_1125, .ref q_1126, .ref q_1127, .ref q_1128, .ref q_1129, .ref q_1130, .ref q_1131, .ref q_1132, .ref q_1133, .null, .int 0, .int 0, .int 0, .int 0, .int 0, .int 0, .null, .int 0, .int 0, .null, .int 0, .int 0, .null, .int 0, .int 0, .null, .null, .int 0, .int 0, .null, .int 0, .int 0, .int 0, .int 0])), (aI ca q_1124 940 (fun _ => 0)), (aI ca q_1125 376 (fun _ => 0)), (aI ca q_1126 89 (fun _ => 0)), (aI ca q_1127 752 (fun _ => 0)), (aI ca q_1128 360 (fun _ => 0)), (aI ca q_1129 45 (fun _ => 0)), (aJ ca q_1130 19 (fun _ => 0)), (aJ ca q_1131 19 (fun _ => 0)), (aJ ca q_1132 38 (fun _ => 0)), (aZ ca q_1133 2 (fun _ => 0))] := hD
  refine lv_aload_n hx hb dX12_init_87 rfl (lv_at hl 0 rfl) ?_
  refine lv_iconst (v := 2) hx hb dX12_init_88 (by decide) ?_
  refine onewa hx hb (atype := .boolean) (ty := .boolean) k16 rfl hK hP hD hS hA 2 rfl (n := 2) (N' := 2) (2, .inl (fun _ => 0)) (fun _ => rfl) (by decide) (by decide) (by decide) (Nat.le_of_ble_eq_true rfl) (Nat.le_of_ble_eq_true rfl) dX12_init_89 (fun q_1134 H hP hD hS => ?_)
  have hP : va_P D vwCl [(h0, .inr (11, [.int 0, .ref q_1124, .int 0, .int 0, .int 0, .int 0, .int 0, .int 0, .int 0, .int 0, .int 0, .int 0, .long 0, .int 0, .ref q_1125, .ref q_1126, .ref q_1127, .ref q_1128, .ref q_1129, .ref q_1130, .ref q_1131, .ref q_1132, .ref q_1133, .null, .int 0, .int 0, .int 0, .int 0, .int 0, .int 0, .null, .int 0, .int 0, .null, .int 0, .int 0, .null, .int 0, .int 0, .null, .null, .int 0, .int 0, .null, .int 0, .int 0, .int 0, .int 0])), (aI ca q_1124 940 (fun _ => 0)), (aI ca q_1125 376 (fun _ => 0)), (aI ca q_1126 89 (fun _ => 0)), (aI ca q_1127 752 (fun _ => 0)), (aI ca q_1128 360 (fun _ => 0)), (aI ca q_1129 45 (fun _ => 0)), (aJ ca q_1130 19 (fun _ => 0)), (aJ ca q_1131 19 (fun _ => 0)), (aJ ca q_1132 38 (fun _ => 0)), (aZ ca q_1133 2 (fun _ => 0)), (aZ ca q_1134 2 (fun _ => 0))] H := hP
  have hD : va_D A [(h0, .inr (11, [.int 0, .ref q_1124, .int 0, .int 0, .int 0, .int 0, .int 0, .int 0, .int 0, .int 0, .int 0, .int 0, .long 0, .int 0, .ref q_1125, .ref q_1126, .ref q_1127, .ref q_1128, .ref q_1129, .ref q_1130, .ref q_1131, .ref q_1132, .ref q_1133, .null, .int 0, .int 0, .int 0, .int 0, .int 0, .int 0, .null, .int 0, .int 0, .null, .int 0, .int 0, .null, .int 0, .int 0, .null, .null, .int 0, .int 0, .null, .int 0, .int 0, .int 0, .int 0])), (aI ca q_1124 940 (fun _ => 0)), (aI ca q_1125 376 (fun _ => 0)), (aI ca q_1126 89 (fun _ => 0)), (aI ca q_1127 752 (fun _ => 0)), (aI ca q_1128 360 (fun _ => 0)), (aI ca q_1129 45 (fun _ => 0)), (aJ ca q_1130 19 (fun _ => 0)), (aJ ca q_1131 19 (fun _ => 0)), (aJ ca q_1132 38 (fun _ => 0)), (aZ ca q_1133 2 (fun _ => 0)), (aZ ca q_1134 2 (fun _ => 0))] := hD
  refine W.widen (k := 11) (n := 2642) (Nat.le_of_ble_eq_true rfl) (Nat.le_of_ble_eq_true rfl) ?_
  refine va_putF (D := D) (ci := 11) (v := .ref q_1134) (ty := .array .boolean) (C := RX12) (T := TX12) (N := 48) hx hb hts k6 tyX12 tyX12_ok nmX12 hown hK.1 hP hD hS 0 rfl rfl 23 (by decide) k18 (fun _ h9 => h9) rfl hin rfl (by decide +kernel) rfl rfl (Nat.le_of_ble_eq_true rfl) dX12_init_91 (fun H locs hP hD hS => ?_)
  have hP : va_P D vwCl [(h0, .inr (11, [.int 0, .ref q_1124, .int 0, .int 0, .int 0, .int 0, .int 0, .int 0, .int 0, .int 0, .int 0, .int 0, .long 0, .int 0, .ref q_1125, .ref q_1126, .ref q_1127, .ref q_1128, .ref q_1129, .ref q_1130, .ref q_1131, .ref q_1132, .ref q_1133, .ref q_1134, .int 0, .int 0, .int 0, .int 0, .int 0, .int 0, .null, .int 0, .int 0, .null, .int 0, .int 0, .null, .int 0, .int 0, .null, .null, .int 0, .int 0, .null, .int 0, .int 0, .int 0, .int 0])), (aI ca q_1124 940 (fun _ => 0)), (aI ca q_1125 376 (fun _ => 0)), (aI ca q_1126 89 (fun _ => 0)), (aI ca q_1127 752 (fun _ => 0)), (aI ca q_1128 360 (fun _ => 0)), (aI ca q_1129 45 (fun _ => 0)), (aJ ca q_1130 19 (fun _ => 0)), (aJ ca q_1131 19 (fun _ => 0)), (aJ ca q_1132 38 (fun _ => 0)), (aZ ca q_1133 2 (fun _ => 0)), (aZ ca q_1134 2 (fun _ => 0))] H := hP
  have hD : va_D A [(h0, .inr (11, [.int 0, .ref q_1124, .int 0, .int 0, .int 0, .int 0, .int 0, .int 0, .int 0, .int 0, .int 0, .int 0, .long 0, .int 0, .ref q_1125, .ref q_1126, .ref q_1127, .ref q_1128, .ref q_1129, .ref q_1130, .ref q_1131, .ref q_1132, .ref q_1133, .ref q_1134, .int 0, .int 0, .int 0, .int 0, .int 0, .int 0, .null, .int 0, .int 0, .null, .int 0, .int 0, .null, .int 0, .int 0, .null, .null, .int 0, .int 0, .null, .int 0, .int 0, .int 0, .int 0])), (aI ca q_1124 940 (fun _ => 0)), (aI ca q_1125 376 (fun _ => 0)), (aI ca q_1126 89 (fun _ => 0)), (aI ca q_1127 752 (fun _ => 0)), (aI ca q_1128 360 (fun _ => 0)), (aI ca q_1129 45 (fun _ => 0)), (aJ ca q_1130 19 (fun _ => 0)), (aJ ca q_1131 19 (fun _ => 0)), (aJ ca q_1132 38 (fun _ => 0)), (aZ ca q_1133 2 (fun _ => 0)), (aZ ca q_1134 2 (fun _ => 0))] := hD
  refine lv_aload_n hx hb dX12_init_94 rfl (lv_at hl 0 rfl) ?_
  refine lv_iconst (v := (-1)) hx hb dX12_init_95 (by decide) ?_
  refine va_put (D := D) (ci := 11) (v := .int (-1)) (ty := .int) (C := RX12) (T := TX12) (N := 48) hx hb hts k6 tyX12 tyX12_ok nmX12 hown hK.1 hP hD hS 0 rfl rfl 27 (by decide) k19 (fun _ h9 => h9) rfl (by decide +kernel) rfl rfl (Nat.le_of_ble_eq_true rfl) dX12_init_96 (fun H locs hP hD hS => ?_)
  have hP : va_P D vwCl [(h0, .inr (11, [.int 0, .ref q_1124, .int 0, .int 0, .int 0, .int 0, .int 0, .int 0, .int 0, .int 0, .int 0, .int 0, .long 0, .int 0, .ref q_1125, .ref q_1126, .ref q_1127, .ref q_1128, .ref q_1129, .ref q_1130, .ref q_1131, .ref q_1132, .ref q_1133, .ref q_1134, .int 0, .int 0, .int 0, .int (-1), .int 0, .int 0, .null, .int 0, .int 0, .null, .int 0, .int 0, .null, .int 0, .int 0, .null, .null, .int 0, .int 0, .null, .int 0, .int 0, .int 0, .int 0])), (aI ca q_1124 940 (fun _ => 0)), (aI ca q_1125 376 (fun _ => 0)), (aI ca q_1126 89 (fun _ => 0)), (aI ca q_1127 752 (fun _ => 0)), (aI ca q_1128 360 (fun _ => 0)), (aI ca q_1129 45 (fun _ => 0)), (aJ ca q_1130 19 (fun _ => 0)), (aJ ca q_1131 19 (fun _ => 0)), (aJ ca q_1132 38 (fun _ => 0)), (aZ ca q_1133 2 (fun _ => 0)), (aZ ca q_1134 2 (fun _ => 0))] H := hP
  have hD : va_D A [(h0, .inr (11, [.int 0, .ref q_1124, .int 0, .int 0, .int 0, .int 0, .int 0, .int 0, .int 0, .int 0, .int 0, .int 0, .long 0, .int 0, .ref q_1125, .ref q_1126, .ref q_1127, .ref q_1128, .ref q_1129, .ref q_1130, .ref q_1131, .ref q_1132, .ref q_1133, .ref q_1134, .int 0, .int 0, .int 0, .int (-1), .int 0, .int 0, .null, .int 0, .int 0, .null, .int 0, .int 0, .null, .int 0, .int 0, .null, .null, .int 0, .int 0, .null, .int 0, .int 0, .int 0, .int 0])), (aI ca q_1124 940 (fun _ => 0)), (aI ca q_1125 376 (fun _ => 0)), (aI ca q_1126 89 (fun _ => 0)), (aI ca q_1127 752 (fun _ => 0)), (aI ca q_1128 360 (fun _ => 0)), (aI ca q_1129 45 (fun _ => 0)), (aJ ca q_1130 19 (fun _ => 0)), (aJ ca q_1131 19 (fun _ => 0)), (aJ ca q_1132 38 (fun _ => 0)), (aZ ca q_1133 2 (fun _ => 0)), (aZ ca q_1134 2 (fun _ => 0))] := hD
  refine lv_aload_n hx hb dX12_init_99 rfl (lv_at hl 0 rfl) ?_
  refine lv_iconst (v := (-1)) hx hb dX12_init_100 (by decide) ?_
  refine va_put (D := D) (ci := 11) (v := .int (-1)) (ty := .int) (C := RX12) (T := TX12) (N := 48) hx hb hts k6 tyX12 tyX12_ok nmX12 hown hK.1 hP hD hS 0 rfl rfl 28 (by decide) k20 (fun _ h9 => h9) rfl (by decide +kernel) rfl rfl (Nat.le_of_ble_eq_true rfl) dX12_init_101 (fun H locs hP hD hS => ?_)
  have hP : va_P D vwCl [(h0, .inr (11, [.int 0, .ref q_1124, .int 0, .int 0, .int 0, .int 0, .int 0, .int 0, .int 0, .int 0, .int 0, .int 0, .long 0, .int 0, .ref q_1125, .ref q_1126, .ref q_1127, .ref q_1128, .ref q_1129, .ref q_1130, .ref q_1131, .ref q_1132, .ref q_1133, .ref q_1134, .int 0, .int 0, .int 0, .int (-1), .int (-1), .int 0, .null, .int 0, .int 0, .null, .int 0, .int 0, .null, .int 0, .int 0, .null, .null, .int 0, .int 0, .null, .int 0, .int 0, .int 0, .int 0])), (aI ca q_1124 940 (fun _ => 0)), (aI ca q_1125 376 (fun _ => 0)), (aI ca q_1126 89 (fun _ => 0)), (aI ca q_1127 752 (fun _ => 0)), (aI ca q_1128 360 (fun _ => 0)), (aI ca q_1129 45 (fun _ => 0)), (aJ ca q_1130 19 (fun _ => 0)), (aJ ca q_1131 19 (fun _ => 0)), (aJ ca q_1132 38 (fun _ => 0)), (aZ ca q_1133 2 (fun _ => 0)), (aZ ca q_1134 2 (fun _ => 0))] H := hP
  have hD : va_D A [(h0, .inr (11, [.int 0, .ref q_1124, .int 0, .int 0, .int 0, .int 0, .int 0, .int 0, .int 0, .int 0, .int 0, .int 0, .long 0, .int 0, .ref q_1125, .ref q_1126, .ref q_1127, .ref q_1128, .ref q_1129, .ref q_1130, .ref q_1131, .ref q_1132, .ref q_1133, .ref q_1134, .int 0, .int 0, .int 0, .int (-1), .int (-1), .int 0, .null, .int 0, .int 0, .null, .int 0, .int 0, .null, .int 0, .int 0, .null, .null, .int 0, .int 0, .null, .int 0, .int 0, .int 0, .int 0])), (aI ca q_1124 940 (fun _ => 0)), (aI ca q_1125 376 (fun _ => 0)), (aI ca q_1126 89 (fun _ => 0)), (aI ca q_1127 752 (fun _ => 0)), (aI ca q_1128 360 (fun _ => 0)), (aI ca q_1129 45 (fun _ => 0)), (aJ ca q_1130 19 (fun _ => 0)), (aJ ca q_1131 19 (fun _ => 0)), (aJ ca q_1132 38 (fun _ => 0)), (aZ ca q_1133 2 (fun _ => 0)), (aZ ca q_1134 2 (fun _ => 0))] := hD
  refine lv_aload_n hx hb dX12_init_104 rfl (lv_at hl 0 rfl) ?_
  refine lv_iconst (v := (-1)) hx hb dX12_init_105 (by decide) ?_
  refine va_put (D := D) (ci := 11) (v := .int (-1)) (ty := .int) (C := RX12) (T := TX12) (N := 48) hx hb hts k6 tyX12 tyX12_ok nmX12 hown hK.1 hP hD hS 0 rfl rfl 29 (by decide) k21 (fun _ h9 => h9) rfl (by decide +kernel) rfl rfl (Nat.le_of_ble_eq_true rfl) dX12_init_106 (fun H locs hP hD hS => ?_)
  have hP : va_P D vwCl [(h0, .inr (11, [.int 0, .ref q_1124, .int 0, .int 0, .int 0, .int 0, .int 0, .int 0, .int 0, .int 0, .int 0, .int 0, .long 0, .int 0, .ref q_1125, .ref q_1126, .ref q_1127, .ref q_1128, .ref q_1129, .ref q_1130, .ref q_1131, .ref q_1132, .ref q_1133, .ref q_1134, .int 0, .int 0, .int 0, .int (-1), .int (-1), .int (-1), .null, .int 0, .int 0, .null, .int 0, .int 0, .null, .int 0, .int 0, .null, .null, .int 0, .int 0, .null, .int 0, .int 0, .int 0, .int 0])), (aI ca q_1124 940 (fun _ => 0)), (aI ca q_1125 376 (fun _ => 0)), (aI ca q_1126 89 (fun _ => 0)), (aI ca q_1127 752 (fun _ => 0)), (aI ca q_1128 360 (fun _ => 0)), (aI ca q_1129 45 (fun _ => 0)), (aJ ca q_1130 19 (fun _ => 0)), (aJ ca q_1131 19 (fun _ => 0)), (aJ ca q_1132 38 (fun _ => 0)), (aZ ca q_1133 2 (fun _ => 0)), (aZ ca q_1134 2 (fun _ => 0))] H := hP
  have hD : va_D A [(h0, .inr (11, [.int 0, .ref q_1124, .int 0, .int 0, .int 0, .int 0, .int 0, .int 0, .int 0, .int 0, .int 0, .int 0, .long 0, .int 0, .ref q_1125, .ref q_1126, .ref q_1127, .ref q_1128, .ref q_1129, .ref q_1130, .ref q_1131, .ref q_1132, .ref q_1133, .ref q_1134, .int 0, .int 0, .int 0, .int (-1), .int (-1), .int (-1), .null, .int 0, .int 0, .null, .int 0, .int 0, .null, .int 0, .int 0, .null, .null, .int 0, .int 0, .null, .int 0, .int 0, .int 0, .int 0])), (aI ca q_1124 940 (fun _ => 0)), (aI ca q_1125 376 (fun _ => 0)), (aI ca q_1126 89 (fun _ => 0)), (aI ca q_1127 752 (fun _ => 0)), (aI ca q_1128 360 (fun _ => 0)), (aI ca q_1129 45 (fun _ => 0)), (aJ ca q_1130 19 (fun _ => 0)), (aJ ca q_1131 19 (fun _ => 0)), (aJ ca q_1132 38 (fun _ => 0)), (aZ ca q_1133 2 (fun _ => 0)), (aZ ca q_1134 2 (fun _ => 0))] := hD
  refine lv_aload_n hx hb dX12_init_109 rfl (lv_at hl 0 rfl) ?_
  refine lv_bipush (v := 10) hx hb dX12_init_110 (by decide) ?_
  refine onewa hx hb (atype := .int) (ty := .int) k4 rfl hK hP hD hS hA 0 rfl (n := 10) (N' := 10) (10, .inl (fun _ => 0)) (fun _ => rfl) (by decide) (by decide) (by decide) (Nat.le_of_ble_eq_true rfl) (Nat.le_of_ble_eq_true rfl) dX12_init_112 (fun q_1135 H hP hD hS => ?_)
  have hP : va_P D vwCl [(h0, .inr (11, [.int 0, .ref q_1124, .int 0, .int 0, .int 0, .int 0, .int 0, .int 0, .int 0, .int 0, .int 0, .int 0, .long 0, .int 0, .ref q_1125, .ref q_1126, .ref q_1127, .ref q_1128, .ref q_1129, .ref q_1130, .ref q_1131, .ref q_1132, .ref q_1133, .ref q_1134, .int 0, .int 0, .int 0, .int (-1), .int (-1), .int (-1), .null, .int 0, .int 0, .null, .int 0, .int 0, .null, .int 0, .int 0, .null, .null, .int 0, .int 0, .null, .int 0, .int 0, .int 0, .int 0])), (aI ca q_1124 940 (fun _ => 0)), (aI ca q_1125 376 (fun _ => 0)), (aI ca q_1126 89 (fun _ => 0)), (aI ca q_1127 752 (fun _ => 0)), (aI ca q_1128 360 (fun _ => 0)), (aI ca q_1129 45 (fun _ => 0)), (aJ ca q_1130 19 (fun _ => 0)), (aJ ca q_1131 19 (fun _ => 0)), (aJ ca q_1132 38 (fun _ => 0)), (aZ ca q_1133 2 (fun _ => 0)), (aZ ca q_1134 2 (fun _ => 0)), (aI ca q_1135 10 (fun _ => 0))] H := hP
  have hD : va_D A [(h0, .inr (11, [.int 0, .ref q_1124, .int 0, .int 0, .int 0, .int 0, .int 0, .int 0, .int 0, .int 0, .int 0, .int 0, .long 0, .int 0, .ref q_1125, .ref q_1126, .ref q_1127, .ref q_1128, .ref q_1129, .ref q_1130, .ref q_1131, .ref q_1132, .ref q_1133, .ref q_1134, .int 0, .int 0, .int 0, .int (-1), .int (-1), .int (-1), .null, .int 0, .int 0, .null, .int 0, .int 0, .null, .int 0, .int 0, .null, .null, .int 0, .int 0, .null, .int 0, .int 0, .int 0, .int 0])), (aI ca q_1124 940 (fun _ => 0)), (aI ca q_1125 376 (fun _ => 0)), (aI ca q_1126 89 (fun _ => 0)), (aI ca q_1127 752 (fun _ => 0)), (aI ca q_1128 360 (fun _ => 0)), (aI ca q_1129 45 (fun _ => 0)), (aJ ca q_1130 19 (fun _ => 0)), (aJ ca q_1131 19 (fun _ => 0)), (aJ ca q_1132 38 (fun _ => 0)), (aZ ca q_1133 2 (fun _ => 0)), (aZ ca q_1134 2 (fun _ => 0)), (aI ca q_1135 10 (fun _ => 0))] := hD
  refine W.widen (k := 12) (n := 2652) (Nat.le_of_ble_eq_true rfl) (Nat.le_of_ble_eq_true rfl) ?_
  refine va_putF (D := D) (ci := 11) (v := .ref q_1135) (ty := .array .int) (C := RX12) (T := TX12) (N := 48) hx hb hts k6 tyX12 tyX12_ok nmX12 hown hK.1 hP hD hS 0 rfl rfl 30 (by decide) k22 (fun _ h9 => h9) rfl hin rfl (by decide +kernel) rfl rfl (Nat.le_of_ble_eq_true rfl) dX12_init_114 (fun H locs hP hD hS => ?_)
  have hP : va_P D vwCl [(h0, .inr (11, [.int 0, .ref q_1124, .int 0, .int 0, .int 0, .int 0, .int 0, .int 0, .int 0, .int 0, .int 0, .int 0, .long 0, .int 0, .ref q_1125, .ref q_1126, .ref q_1127, .ref q_1128, .ref q_1129, .ref q_1130, .ref q_1131, .ref q_1132, .ref q_1133, .ref q_1134, .int 0, .int 0, .int 0, .int (-1), .int (-1), .int (-1), .ref q_1135, .int 0, .int 0, .null, .int 0, .int 0, .null, .int 0, .int 0, .null, .null, .int 0, .int 0, .null, .int 0, .int 0, .int 0, .int 0])), (aI ca q_1124 940 (fun _ => 0)), (aI ca q_1125 376 (fun _ => 0)), (aI ca q_1126 89 (fun _ => 0)), (aI ca q_1127 752 (fun _ => 0)), (aI ca q_1128 360 (fun _ => 0)), (aI ca q_1129 45 (fun _ => 0)), (aJ ca q_1130 19 (fun _ => 0)), (aJ ca q_1131 19 (fun _ => 0)), (aJ ca q_1132 38 (fun _ => 0)), (aZ ca q_1133 2 (fun _ => 0)), (aZ ca q_1134 2 (fun _ => 0)), (aI ca q_1135 10 (fun _ => 0))] H := hP
  have hD : va_D A [(h0, .inr (11, [.int 0, .ref q_1124, .int 0, .int 0, .int 0, .int 0, .int 0, .int 0, .int 0, .int 0, .int 0, .int 0, .long 0, .int 0, .ref q_1125, .ref q_1126, .ref q_1127, .ref q_1128, .ref q_1129, .ref q_1130, .ref q_1131, .ref q_1132, .ref q_1133, .ref q_1134, .int 0, .int 0, .int 0, .int (-1), .int (-1), .int (-1), .ref q_1135, .int 0, .int 0, .null, .int 0, .int 0, .null, .int 0, .int 0, .null, .null, .int 0, .int 0, .null, .int 0, .int 0, .int 0, .int 0])), (aI ca q_1124 940 (fun _ => 0)), (aI ca q_1125 376 (fun _ => 0)), (aI ca q_1126 89 (fun _ => 0)), (aI ca q_1127 752 (fun _ => 0)), (aI ca q_1128 360 (fun _ => 0)), (aI ca q_1129 45 (fun _ => 0)), (aJ ca q_1130 19 (fun _ => 0)), (aJ ca q_1131 19 (fun _ => 0)), (aJ ca q_1132 38 (fun _ => 0)), (aZ ca q_1133 2 (fun _ => 0)), (aZ ca q_1134 2 (fun _ => 0)), (aI ca q_1135 10 (fun _ => 0))] := hD
  refine lv_aload_n hx hb dX12_init_117 rfl (lv_at hl 0 rfl) ?_
  refine lv_iconst (v := (-1)) hx hb dX12_init_118 (by decide) ?_
  refine va_put (D := D) (ci := 11) (v := .int (-1)) (ty := .int) (C := RX12) (T := TX12) (N := 48) hx hb hts k6 tyX12 tyX12_ok nmX12 hown hK.1 hP hD hS 0 rfl rfl 31 (by decide) k23 (fun _ h9 => h9) rfl (by decide +kernel) rfl rfl (Nat.le_of_ble_eq_true rfl) dX12_init_119 (fun H locs hP hD hS => ?_)
  have hP : va_P D vwCl [(h0, .inr (11, [.int 0, .ref q_1124, .int 0, .int 0, .int 0, .int 0, .int 0, .int 0, .int 0, .int 0, .int 0, .int 0, .long 0, .int 0, .ref q_1125, .ref q_1126, .ref q_1127, .ref q_1128, .ref q_1129, .ref q_1130, .ref q_1131, .ref q_1132, .ref q_1133, .ref q_1134, .int 0, .int 0, .int 0, .int (-1), .int (-1), .int (-1), .ref q_1135, .int (-1), .int 0, .null, .int 0, .int 0, .null, .int 0, .int 0, .null, .null, .int 0, .int 0, .null, .int 0, .int 0, .int 0, .int 0])), (aI ca q_1124 940 (fun _ => 0)), (aI ca q_1125 376 (fun _ => 0)), (aI ca q_1126 89 (fun _ => 0)), (aI ca q_1127 752 (fun _ => 0)), (aI ca q_1128 360 (fun _ => 0)), (aI ca q_1129 45 (fun _ => 0)), (aJ ca q_1130 19 (fun _ => 0)), (aJ ca q_1131 19 (fun _ => 0)), (aJ ca q_1132 38 (fun _ => 0)), (aZ ca q_1133 2 (fun _ => 0)), (aZ ca q_1134 2 (fun _ => 0)), (aI ca q_1135 10 (fun _ => 0))] H := hP
  have hD : va_D A [(h0, .inr (11, [.int 0, .ref q_1124, .int 0, .int 0, .int 0, .int 0, .int 0, .int 0, .int 0, .int 0, .int 0, .int 0, .long 0, .int 0, .ref q_1125, .ref q_1126, .ref q_1127, .ref q_1128, .ref q_1129, .ref q_1130, .ref q_1131, .ref q_1132, .ref q_1133, .ref q_1134, .int 0, .int 0, .int 0, .int (-1), .int (-1), .int (-1), .ref q_1135, .int (-1), .int 0, .null, .int 0, .int 0, .null, .int 0, .int 0, .null, .null, .int 0, .int 0, .null, .int 0, .int 0, .int 0, .int 0])), (aI ca q_1124 940 (fun _ => 0)), (aI ca q_1125 376 (fun _ => 0)), (aI ca q_1126 89 (fun _ => 0)), (aI ca q_1127 752 (fun _ => 0)), (aI ca q_1128 360 (fun _ => 0)), (aI ca q_1129 45 (fun _ => 0)), (aJ ca q_1130 19 (fun _ => 0)), (aJ ca q_1131 19 (fun _ => 0)), (aJ ca q_1132 38 (fun _ => 0)), (aZ ca q_1133 2 (fun _ => 0)), (aZ ca q_1134 2 (fun _ => 0)), (aI ca q_1135 10 (fun _ => 0))] := hD
  refine lv_aload_n hx hb dX12_init_122 rfl (lv_at hl 0 rfl) ?_
  refine lv_iconst (v := (-1)) hx hb dX12_init_123 (by decide) ?_
  refine va_put (D := D) (ci := 11) (v := .int (-1)) (ty := .int) (C := RX12) (T := TX12) (N := 48) hx hb hts k6 tyX12 tyX12_ok nmX12 hown hK.1 hP hD hS 0 rfl rfl 32 (by decide) k24 (fun _ h9 => h9) rfl (by decide +kernel) rfl rfl (Nat.le_of_ble_eq_true rfl) dX12_init_124 (fun H locs hP hD hS => ?_)
  have hP : va_P D vwCl [(h0, .inr (11, [.int 0, .ref q_1124, .int 0, .int 0, .int 0, .int 0, .int 0, .int 0, .int 0, .int 0, .int 0, .int 0, .long 0, .int 0, .ref q_1125, .ref q_1126, .ref q_1127, .ref q_1128, .ref q_1129, .ref q_1130, .ref q_1131, .ref q_1132, .ref q_1133, .ref q_1134, .int 0, .int 0, .int 0, .int (-1), .int (-1), .int (-1), .ref q_1135, .int (-1), .int (-1), .null, .int 0, .int 0, .null, .int 0, .int 0, .null, .null, .int 0, .int 0, .null, .int 0, .int 0, .int 0, .int 0])), (aI ca q_1124 940 (fun _ => 0)), (aI ca q_1125 376 (fun _ => 0)), (aI ca q_1126 89 (fun _ => 0)), (aI ca q_1127 752 (fun _ => 0)), (aI ca q_1128 360 (fun _ => 0)), (aI ca q_1129 45 (fun _ => 0)), (aJ ca q_1130 19 (fun _ => 0)), (aJ ca q_1131 19 (fun _ => 0)), (aJ ca q_1132 38 (fun _ => 0)), (aZ ca q_1133 2 (fun _ => 0)), (aZ ca q_1134 2 (fun _ => 0)), (aI ca q_1135 10 (fun _ => 0))] H := hP
  have hD : va_D A [(h0, .inr (11, [.int 0, .ref q_1124, .int 0, .int 0, .int 0, .int 0, .int 0, .int 0, .int 0, .int 0, .int 0, .int 0, .long 0, .int 0, .ref q_1125, .ref q_1126, .ref q_1127, .ref q_1128, .ref q_1129, .ref q_1130, .ref q_1131, .ref q_1132, .ref q_1133, .ref q_1134, .int 0, .int 0, .int 0, .int (-1), .int (-1), .int (-1), .ref q_1135, .int (-1), .int (-1), .null, .int 0, .int 0, .null, .int 0, .int 0, .null, .null, .int 0, .int 0, .null, .int 0, .int 0, .int 0, .int 0])), (aI ca q_1124 940 (fun _ => 0)), (aI ca q_1125 376 (fun _ => 0)), (aI ca q_1126 89 (fun _ => 0)), (aI ca q_1127 752 (fun _ => 0)), (aI ca q_1128 360 (fun _ => 0)), (aI ca q_1129 45 (fun _ => 0)), (aJ ca q_1130 19 (fun _ => 0)), (aJ ca q_1131 19 (fun _ => 0)), (aJ ca q_1132 38 (fun _ => 0)), (aZ ca q_1133 2 (fun _ => 0)), (aZ ca q_1134 2 (fun _ => 0)), (aI ca q_1135 10 (fun _ => 0))] := hD
  refine lv_aload_n hx hb dX12_init_127 rfl (lv_at hl 0 rfl) ?_
  refine lv_sipush (v := 1024) hx hb dX12_init_128 (by decide) ?_
  refine onewa hx hb (atype := .boolean) (ty := .boolean) k16 rfl hK hP hD hS hA 2 rfl (n := 1024) (N' := 1024) (1024, .inl (fun _ => 0)) (fun _ => rfl) (by decide) (by decide) (by decide) (Nat.le_of_ble_eq_true rfl) (Nat.le_of_ble_eq_true rfl) dX12_init_131 (fun q_1136 H hP hD hS => ?_)
  have hP : va_P D vwCl [(h0, .inr (11, [.int 0, .ref q_1124, .int 0, .int 0, .int 0, .int 0, .int 0, .int 0, .int 0, .int 0, .int 0, .int 0, .long 0, .int 0, .ref q_1125, .ref q_1126, .ref q_1127, .ref q_1128, .ref q_1129, .ref q_1130, .ref q_1131, .ref q_1132, .ref q_1133, .ref q_1134, .int 0, .int 0, .int 0, .int (-1), .int (-1), .int (-1), .ref q_1135, .int (-1), .int (-1), .null, .int 0, .int 0, .null, .int 0, .int 0, .null, .null, .int 0, .int 0, .null, .int 0, .int 0, .int 0, .int 0])), (aI ca q_1124 940 (fun _ => 0)), (aI ca q_1125 376 (fun _ => 0)), (aI ca q_1126 89 (fun _ => 0)), (aI ca q_1127 752 (fun _ => 0)), (aI ca q_1128 360 (fun _ => 0)), (aI ca q_1129 45 (fun _ => 0)), (aJ ca q_1130 19 (fun _ => 0)), (aJ ca q_1131 19 (fun _ => 0)), (aJ ca q_1132 38 (fun _ => 0)), (aZ ca q_1133 2 (fun _ => 0)), (aZ ca q_1134 2 (fun _ => 0)), (aI ca q_1135 10 (fun _ => 0)), (aZ ca q_1136 1024 (fun _ => 0))] H := hP
  have hD : va_D A [(h0, .inr (11, [.int 0, .ref q_1124, .int 0, .int 0, .int 0, .int 0, .int 0, .int 0, .int 0, .int 0, .int 0, .int 0, .long 0, .int 0, .ref q_1125, .ref q_1126, .ref q_1127, .ref q_1128, .ref q_1129, .ref q_1130, .ref q_1131, .ref q_1132, .ref q_1133, .ref q_1134, .int 0, .int 0, .int 0, .int (-1), .int (-1), .int (-1), .ref q_1135, .int (-1), .int (-1), .null, .int 0, .int 0, .null, .int 0, .int 0, .null, .null, .int 0, .int 0, .null, .int 0, .int 0, .int 0, .int 0])), (aI ca q_1124 940 (fun _ => 0)), (aI ca q_1125 376 (fun _ => 0)), (aI ca q_1126 89 (fun _ => 0)), (aI ca q_1127 752 (fun _ => 0)), (aI ca q_1128 360 (fun _ => 0)), (aI ca q_1129 45 (fun _ => 0)), (aJ ca q_1130 19 (fun _ => 0)), (aJ ca q_1131 19 (fun _ => 0)), (aJ ca q_1132 38 (fun _ => 0)), (aZ ca q_1133 2 (fun _ => 0)), (aZ ca q_1134 2 (fun _ => 0)), (aI ca q_1135 10 (fun _ => 0)), (aZ ca q_1136 1024 (fun _ => 0))] := hD
  refine W.widen (k := 13) (n := 3676) (Nat.le_of_ble_eq_true rfl) (Nat.le_of_ble_eq_true rfl) ?_
  refine va_putF (D := D) (ci := 11) (v := .ref q_1136) (ty := .array .boolean) (C := RX12) (T := TX12) (N := 48) hx hb hts k6 tyX12 tyX12_ok nmX12 hown hK.1 hP hD hS 0 rfl rfl 33 (by decide) k25 (fun _ h9 => h9) rfl hin rfl (by decide +kernel) rfl rfl (Nat.le_of_ble_eq_true rfl) dX12_init_133 (fun H locs hP hD hS => ?_)
  have hP : va_P D vwCl [(h0, .inr (11, [.int 0, .ref q_1124, .int 0, .int 0, .int 0, .int 0, .int 0, .int 0, .int 0, .int 0, .int 0, .int 0, .long 0, .int 0, .ref q_1125, .ref q_1126, .ref q_1127, .ref q_1128, .ref q_1129, .ref q_1130, .ref q_1131, .ref q_1132, .ref q_1133, .ref q_1134, .int 0, .int 0, .int 0, .int (-1), .int (-1), .int (-1), .ref q_1135, .int (-1), .int (-1), .ref q_1136, .int 0, .int 0, .null, .int 0, .int 0, .null, .null, .int 0, .int 0, .null, .int 0, .int 0, .int 0, .int 0])), (aI ca q_1124 940 (fun _ => 0)), (aI ca q_1125 376 (fun _ => 0)), (aI ca q_1126 89 (fun _ => 0)), (aI ca q_1127 752 (fun _ => 0)), (aI ca q_1128 360 (fun _ => 0)), (aI ca q_1129 45 (fun _ => 0)), (aJ ca q_1130 19 (fun _ => 0)), (aJ ca q_1131 19 (fun _ => 0)), (aJ ca q_1132 38 (fun _ => 0)), (aZ ca q_1133 2 (fun _ => 0)), (aZ ca q_1134 2 (fun _ => 0)), (aI ca q_1135 10 (fun _ => 0)), (aZ ca q_1136 1024 (fun _ => 0))] H := hP
  have hD : va_D A [(h0, .inr (11, [.int 0, .ref q_1124, .int 0, .int 0, .int 0, .int 0, .int 0, .int 0, .int 0, .int 0, .int 0, .int 0, .long 0, .int 0, .ref q_1125, .ref q_1126, .ref q_1127, .ref q_1128, .ref q_1129, .ref q_1130, .ref q_1131, .ref q_1132, .ref q_1133, .ref q_1134, .int 0, .int 0, .int 0, .int (-1), .int (-1), .int (-1), .ref q_1135, .int (-1), .int (-1), .ref q_1136, .int 0, .int 0, .null, .int 0, .int 0, .null, .null, .int 0, .int 0, .null, .int 0, .int 0, .int 0, .int 0])), (aI ca q_1124 940 (fun _ => 0)), (aI ca q_1125 376 (fun _ => 0)), (aI ca q_1126 89 (fun _ => 0)), (aI ca q_1127 752 (fun _ => 0)), (aI ca q_1128 360 (fun _ => 0)), (aI ca q_1129 45 (fun _ => 0)), (aJ ca q_1130 19 (fun _ => 0)), (aJ ca q_1131 19 (fun _ => 0)), (aJ ca q_1132 38 (fun _ => 0)), (aZ ca q_1133 2 (fun _ => 0)), (aZ ca q_1134 2 (fun _ => 0)), (aI ca q_1135 10 (fun _ => 0)), (aZ ca q_1136 1024 (fun _ => 0))] := hD
  refine lv_aload_n hx hb dX12_init_136 rfl (lv_at hl 0 rfl) ?_
  refine lv_iconst (v := (-1)) hx hb dX12_init_137 (by decide) ?_
  refine va_put (D := D) (ci := 11) (v := .int (-1)) (ty := .int) (C := RX12) (T := TX12) (N := 48) hx hb hts k6 tyX12 tyX12_ok nmX12 hown hK.1 hP hD hS 0 rfl rfl 34 (by decide) k26 (fun _ h9 => h9) rfl (by decide +kernel) rfl rfl (Nat.le_of_ble_eq_true rfl) dX12_init_138 (fun H locs hP hD hS => ?_)
  have hP : va_P D vwCl [(h0, .inr (11, [.int 0, .ref q_1124, .int 0, .int 0, .int 0, .int 0, .int 0, .int 0, .int 0, .int 0, .int 0, .int 0, .long 0, .int 0, .ref q_1125, .ref q_1126, .ref q_1127, .ref q_1128, .ref q_1129, .ref q_1130, .ref q_1131, .ref q_1132, .ref q_1133, .ref q_1134, .int 0, .int 0, .int 0, .int (-1), .int (-1), .int (-1), .ref q_1135, .int (-1), .int (-1), .ref q_1136, .int (-1), .int 0, .null, .int 0, .int 0, .null, .null, .int 0, .int 0, .null, .int 0, .int 0, .int 0, .int 0])), (aI ca q_1124 940 (fun _ => 0)), (aI ca q_1125 376 (fun _ => 0)), (aI ca q_1126 89 (fun _ => 0)), (aI ca q_1127 752 (fun _ => 0)), (aI ca q_1128 360 (fun _ => 0)), (aI ca q_1129 45 (fun _ => 0)), (aJ ca q_1130 19 (fun _ => 0)), (aJ ca q_1131 19 (fun _ => 0)), (aJ ca q_1132 38 (fun _ => 0)), (aZ ca q_1133 2 (fun _ => 0)), (aZ ca q_1134 2 (fun _ => 0)), (aI ca q_1135 10 (fun _ => 0)), (aZ ca q_1136 1024 (fun _ => 0))] H := hP
  have hD : va_D A [(h0, .inr (11, [.int 0, .ref q_1124, .int 0, .int 0, .int 0, .int 0, .int 0, .int 0, .int 0, .int 0, .int 0, .int 0, .long 0, .int 0, .ref q_1125, .ref q_1126, .ref q_1127, .ref q_1128, .ref q_1129, .ref q_1130, .ref q_1131, .ref q_1132, .ref q_1133, .ref q_1134, .int 0, .int 0, .int 0, .int (-1), .int (-1), .int (-1), .ref q_1135, .int (-1), .int (-1), .ref q_1136, .int (-1), .int 0, .null, .int 0, .int 0, .null, .null, .int 0, .int 0, .null, .int 0, .int 0, .int 0, .int 0])), (aI ca q_1124 940 (fun _ => 0)), (aI ca q_1125 376 (fun _ => 0)), (aI ca q_1126 89 (fun _ => 0)), (aI ca q_1127 752 (fun _ => 0)), (aI ca q_1128 360 (fun _ => 0)), (aI ca q_1129 45 (fun _ => 0)), (aJ ca q_1130 19 (fun _ => 0)), (aJ ca q_1131 19 (fun _ => 0)), (aJ ca q_1132 38 (fun _ => 0)), (aZ ca q_1133 2 (fun _ => 0)), (aZ ca q_1134 2 (fun _ => 0)), (aI ca q_1135 10 (fun _ => 0)), (aZ ca q_1136 1024 (fun _ => 0))] := hD
  refine lv_aload_n hx hb dX12_init_141 rfl (lv_at hl 0 rfl) ?_
  refine lv_iconst (v := (-1)) hx hb dX12_init_142 (by decide) ?_
  refine va_put (D := D) (ci := 11) (v := .int (-1)) (ty := .int) (C := RX12) (T := TX12) (N := 48) hx hb hts k6 tyX12 tyX12_ok nmX12 hown hK.1 hP hD hS 0 rfl rfl 35 (by decide) k27 (fun _ h9 => h9) rfl (by decide +kernel) rfl rfl (Nat.le_of_ble_eq_true rfl) dX12_init_143 (fun H locs hP hD hS => ?_)
  have hP : va_P D vwCl [(h0, .inr (11, [.int 0, .ref q_1124, .int 0, .int 0, .int 0, .int 0, .int 0, .int 0, .int 0, .int 0, .int 0, .int 0, .long 0, .int 0, .ref q_1125, .ref q_1126, .ref q_1127, .ref q_1128, .ref q_1129, .ref q_1130, .ref q_1131, .ref q_1132, .ref q_1133, .ref q_1134, .int 0, .int 0, .int 0, .int (-1), .int (-1), .int (-1), .ref q_1135, .int (-1), .int (-1), .ref q_1136, .int (-1), .int (-1), .null, .int 0, .int 0, .null, .null, .int 0, .int 0, .null, .int 0, .int 0, .int 0, .int 0])), (aI ca q_1124 940 (fun _ => 0)), (aI ca q_1125 376 (fun _ => 0)), (aI ca q_1126 89 (fun _ => 0)), (aI ca q_1127 752 (fun _ => 0)), (aI ca q_1128 360 (fun _ => 0)), (aI ca q_1129 45 (fun _ => 0)), (aJ ca q_1130 19 (fun _ => 0)), (aJ ca q_1131 19 (fun _ => 0)), (aJ ca q_1132 38 (fun _ => 0)), (aZ ca q_1133 2 (fun _ => 0)), (aZ ca q_1134 2 (fun _ => 0)), (aI ca q_1135 10 (fun _ => 0)), (aZ ca q_1136 1024 (fun _ => 0))] H := hP
  have hD : va_D A [(h0, .inr (11, [.int 0, .ref q_1124, .int 0, .int 0, .int 0, .int 0, .int 0, .int 0, .int 0, .int 0, .int 0, .int 0, .long 0, .int 0, .ref q_1125, .ref q_1126, .ref q_1127, .ref q_1128, .ref q_1129, .ref q_1130, .ref q_1131, .ref q_1132, .ref q_1133, .ref q_1134, .int 0, .int 0, .int 0, .int (-1), .int (-1), .int (-1), .ref q_1135, .int (-1), .int (-1), .ref q_1136, .int (-1), .int (-1), .null, .int 0, .int 0, .null, .null, .int 0, .int 0, .null, .int 0, .int 0, .int 0, .int 0])), (aI ca q_1124 940 (fun _ => 0)), (aI ca q_1125 376 (fun _ => 0)), (aI ca q_1126 89 (fun _ => 0)), (aI ca q_1127 752 (fun _ => 0)), (aI ca q_1128 360 (fun _ => 0)), (aI ca q_1129 45 (fun _ => 0)), (aJ ca q_1130 19 (fun _ => 0)), (aJ ca q_1131 19 (fun _ => 0)), (aJ ca q_1132 38 (fun _ => 0)), (aZ ca q_1133 2 (fun _ => 0)), (aZ ca q_1134 2 (fun _ => 0)), (aI ca q_1135 10 (fun _ => 0)), (aZ ca q_1136 1024 (fun _ => 0))] := hD
  refine lv_aload_n hx hb dX12_init_146 rfl (lv_at hl 0 rfl) ?_
  refine lv_bipush (v := 64) hx hb dX12_init_147 (by decide) ?_
  refine onewa hx hb (atype := .int) (ty := .int) k4 rfl hK hP hD hS hA 0 rfl (n := 64) (N' := 64) (64, .inl (fun _ => 0)) (fun _ => rfl) (by decide) (by decide) (by decide) (Nat.le_of_ble_eq_true rfl) (Nat.le_of_ble_eq_true rfl) dX12_init_149 (fun q_1137 H hP hD hS => ?_)
  have hP : va_P D vwCl [(h0, .inr (11, [.int 0, .ref q_1124, .int 0, .int 0, .int 0, .int 0, .int 0, .int 0, .int 0, .int 0, .int 0, .int 0, .long 0, .int 0, .ref q_1125, .ref q_1126, .ref q_1127, .ref q_1128, .ref q_1129, .ref q_1130, .ref q_1131, .ref q_1132, .ref q_1133, .ref q_1134, .int 0, .int 0, .int 0, .int (-1), .int (-1), .int (-1), .ref q_1135, .int (-1), .int (-1), .ref q_1136, .int (-1), .int (-1), .null, .int 0, .int 0, .null, .null, .int 0, .int 0, .null, .int 0, .int 0, .int 0, .int 0])), (aI ca q_1124 940 (fun _ => 0)), (aI ca q_1125 376 (fun _ => 0)), (aI ca q_1126 89 (fun _ => 0)), (aI ca q_1127 752 (fun _ => 0)), (aI ca q_1128 360 (fun _ => 0)), (aI ca q_1129 45 (fun _ => 0)), (aJ ca q_1130 19 (fun _ => 0)), (aJ ca q_1131 19 (fun _ => 0)), (aJ ca q_1132 38 (fun _ => 0)), (aZ ca q_1133 2 (fun _ => 0)), (aZ ca q_1134 2 (fun _ => 0)), (aI ca q_1135 10 (fun _ => 0)), (aZ ca q_1136 1024 (fun _ => 0)), (aI ca q_1137 64 (fun _ => 0))] H := hP
  have hD : va_D A [(h0, .inr (11, [.int 0, .ref q_1124, .int 0, .int 0, .int 0, .int 0, .int 0, .int 0, .int 0, .int 0, .int 0, .int 0, .long 0, .int 0, .ref q_1125, .ref q_1126, .ref q_1127, .ref q_1128, .ref q_1129, .ref q_1130, .ref q_1131, .ref q_1132, .ref q_1133, .ref q_1134, .int 0, .int 0, .int 0, .int (-1), .int (-1), .int (-1), .ref q_1135, .int (-1), .int (-1), .ref q_1136, .int (-1), .int (-1), .null, .int 0, .int 0, .null, .null, .int 0, .int 0, .null, .int 0, .int 0, .int 0, .int 0])), (aI ca q_1124 940 (fun _ => 0)), (aI ca q_1125 376 (fun _ => 0)), (aI ca q_1126 89 (fun _ => 0)), (aI ca q_1127 752 (fun _ => 0)), (aI ca q_1128 360 (fun _ => 0)), (aI ca q_1129 45 (fun _ => 0)), (aJ ca q_1130 19 (fun _ => 0)), (aJ ca q_1131 19 (fun _ => 0)), (aJ ca q_1132 38 (fun _ => 0)), (aZ ca q_1133 2 (fun _ => 0)), (aZ ca q_1134 2 (fun _ => 0)), (aI ca q_1135 10 (fun _ => 0)), (aZ ca q_1136 1024 (fun _ => 0)), (aI ca q_1137 64 (fun _ => 0))] := hD
  refine W.widen (k := 14) (n := 3740) (Nat.le_of_ble_eq_true rfl) (Nat.le_of_ble_eq_true rfl) ?_
  refine va_putF (D := D) (ci := 11) (v := .ref q_1137) (ty := .array .int) (C := RX12) (T := TX12) (N := 48) hx hb hts k6 tyX12 tyX12_ok nmX12 hown hK.1 hP hD hS 0 rfl rfl 36 (by decide) k28 (fun _ h9 => h9) rfl hin rfl (by decide +kernel) rfl rfl (Nat.le_of_ble_eq_true rfl) dX12_init_151 (fun H locs hP hD hS => ?_)
  have hP : va_P D vwCl [(h0, .inr (11, [.int 0, .ref q_1124, .int 0, .int 0, .int 0, .int 0, .int 0, .int 0, .int 0, .int 0, .int 0, .int 0, .long 0, .int 0, .ref q_1125, .ref q_1126, .ref q_1127, .ref q_1128, .ref q_1129, .ref q_1130, .ref q_1131, .ref q_1132, .ref q_1133, .ref q_1134, .int 0, .int 0, .int 0, .int (-1), .int (-1), .int (-1), .ref q_1135, .int (-1), .int (-1), .ref q_1136, .int (-1), .int (-1), .ref q_1137, .int 0, .int 0, .null, .null, .int 0, .int 0, .null, .int 0, .int 0, .int 0, .int 0])), (aI ca q_1124 940 (fun _ => 0)), (aI ca q_1125 376 (fun _ => 0)), (aI ca q_1126 89 (fun _ => 0)), (aI ca q_1127 752 (fun _ => 0)), (aI ca q_1128 360 (fun _ => 0)), (aI ca q_1129 45 (fun _ => 0)), (aJ ca q_1130 19 (fun _ => 0)), (aJ ca q_1131 19 (fun _ => 0)), (aJ ca q_1132 38 (fun _ => 0)), (aZ ca q_1133 2 (fun _ => 0)), (aZ ca q_1134 2 (fun _ => 0)), (aI ca q_1135 10 (fun _ => 0)), (aZ ca q_1136 1024 (fun _ => 0)), (aI ca q_1137 64 (fun _ => 0))] H := hP
  have hD : va_D A [(h0, .inr (11, [.int 0, .ref q_1124, .int 0, .int 0, .int 0, .int 0, .int 0, .int 0, .int 0, .int 0, .int 0, .int 0, .long 0, .int 0, .ref q_1125, .ref q_1126, .ref q_1127, .ref q_1128, .ref q_1129, .ref q_1130, .ref q_1131, .ref q_1132, .ref q_1133, .ref q_1134, .int 0, .int 0, .int 0, .int (-1), .int (-1), .int (-1), .ref q_1135, .int (-1), .int (-1), .ref q_1136, .int (-1), .int (-1), .ref q_1137, .int 0, .int 0, .null, .null, .int 0, .int 0, .null, .int 0, .int 0, .int 0, .int 0])), (aI ca q_1124 940 (fun _ => 0)), (aI ca q_1125 376 (fun _ => 0)), (aI ca q_1126 89 (fun _ => 0)), (aI ca q_1127 752 (fun _ => 0)), (aI ca q_1128 360 (fun _ => 0)), (aI ca q_1129 45 (fun _ => 0)), (aJ ca q_1130 19 (fun _ => 0)), (aJ ca q_1131 19 (fun _ => 0)), (aJ ca q_1132 38 (fun _ => 0)), (aZ ca q_1133 2 (fun _ => 0)), (aZ ca q_1134 2 (fun _ => 0)), (aI ca q_1135 10 (fun _ => 0)), (aZ ca q_1136 1024 (fun _ => 0)), (aI ca q_1137 64 (fun _ => 0))] := hD
  refine lv_aload_n hx hb dX12_init_154 rfl (lv_at hl 0 rfl) ?_
  refine lv_bipush (v := 80) hx hb dX12_init_155 (by decide) ?_
  refine onewa hx hb (atype := .int) (ty := .int) k4 rfl hK hP hD hS hA 0 rfl (n := 80) (N' := 80) (80, .inl (fun _ => 0)) (fun _ => rfl) (by decide) (by decide) (by decide) (Nat.le_of_ble_eq_true rfl) (Nat.le_of_ble_eq_true rfl) dX12_init_157 (fun q_1138 H hP hD hS => ?_)
  have hP : va_P D vwCl [(h0, .inr (11, [.int 0, .ref q_1124, .int 0, .int 0, .int 0, .int 0, .int 0, .int 0, .int 0, .int 0, .int 0, .int 0, .long 0, .int 0, .ref q_1125, .ref q_1126, .ref q_1127, .ref q_1128, .ref q_1129, .ref q_1130, .ref q_1131, .ref q_1132, .ref q_1133, .ref q_1134, .int 0, .int 0, .int 0, .int (-1), .int (-1), .int (-1), .ref q_1135, .int (-1), .int (-1), .ref q_1136, .int (-1), .int (-1), .ref q_1137, .int 0, .int 0, .null, .null, .int 0, .int 0, .null, .int 0, .int 0, .int 0, .int 0])), (aI ca q_1124 940 (fun _ => 0)), (aI ca q_1125 376 (fun _ => 0)), (aI ca q_1126 89 (fun _ => 0)), (aI ca q_1127 752 (fun _ => 0)), (aI ca q_1128 360 (fun _ => 0)), (aI ca q_1129 45 (fun _ => 0)), (aJ ca q_1130 19 (fun _ => 0)), (aJ ca q_1131 19 (fun _ => 0)), (aJ ca q_1132 38 (fun _ => 0)), (aZ ca q_1133 2 (fun _ => 0)), (aZ ca q_1134 2 (fun _ => 0)), (aI ca q_1135 10 (fun _ => 0)), (aZ ca q_1136 1024 (fun _ => 0)), (aI ca q_1137 64 (fun _ => 0)), (aI ca q_1138 80 (fun _ => 0))] H := hP
  have hD : va_D A [(h0, .inr (11, [.int 0, .ref q_1124, .int 0, .int 0, .int 0, .int 0, .int 0, .int 0, .int 0, .int 0, .int 0, .int 0, .long 0, .int 0, .ref q_1125, .ref q_1126, .ref q_1127, .ref q_1128, .ref q_1129, .ref q_1130, .ref q_1131, .ref q_1132, .ref q_1133, .ref q_1134, .int 0, .int 0, .int 0, .int (-1), .int (-1), .int (-1), .ref q_1135, .int (-1), .int (-1), .ref q_1136, .int (-1), .int (-1), .ref q_1137, .int 0, .int 0, .null, .null, .int 0, .int 0, .null, .int 0, .int 0, .int 0, .int 0])), (aI ca q_1124 940 (fun _ => 0)), (aI ca q_1125 376 (fun _ => 0)), (aI ca q_1126 89 (fun _ => 0)), (aI ca q_1127 752 (fun _ => 0)), (aI ca q_1128 360 (fun _ => 0)), (aI ca q_1129 45 (fun _ => 0)), (aJ ca q_1130 19 (fun _ => 0)), (aJ ca q_1131 19 (fun _ => 0)), (aJ ca q_1132 38 (fun _ => 0)), (aZ ca q_1133 2 (fun _ => 0)), (aZ ca q_1134 2 (fun _ => 0)), (aI ca q_1135 10 (fun _ => 0)), (aZ ca q_1136 1024 (fun _ => 0)), (aI ca q_1137 64 (fun _ => 0)), (aI ca q_1138 80 (fun _ => 0))] := hD
  refine W.widen (k := 15) (n := 3820) (Nat.le_of_ble_eq_true rfl) (Nat.le_of_ble_eq_true rfl) ?_
  refine va_putF (D := D) (ci := 11) (v := .ref q_1138) (ty := .array .int) (C := RX12) (T := TX12) (N := 48) hx hb hts k6 tyX12 tyX12_ok nmX12 hown hK.1 hP hD hS 0 rfl rfl 39 (by decide) k29 (fun _ h9 => h9) rfl hin rfl (by decide +kernel) rfl rfl (Nat.le_of_ble_eq_true rfl) dX12_init_159 (fun H locs hP hD hS => ?_)
  have hP : va_P D vwCl [(h0, .inr (11, [.int 0, .ref q_1124, .int 0, .int 0, .int 0, .int 0, .int 0, .int 0, .int 0, .int 0, .int 0, .int 0, .long 0, .int 0, .ref q_1125, .ref q_1126, .ref q_1127, .ref q_1128, .ref q_1129, .ref q_1130, .ref q_1131, .ref q_1132, .ref q_1133, .ref q_1134, .int 0, .int 0, .int 0, .int (-1), .int (-1), .int (-1), .ref q_1135, .int (-1), .int (-1), .ref q_1136, .int (-1), .int (-1), .ref q_1137, .int 0, .int 0, .ref q_1138, .null, .int 0, .int 0, .null, .int 0, .int 0, .int 0, .int 0])), (aI ca q_1124 940 (fun _ => 0)), (aI ca q_1125 376 (fun _ => 0)), (aI ca q_1126 89 (fun _ => 0)), (aI ca q_1127 752 (fun _ => 0)), (aI ca q_1128 360 (fun _ => 0)), (aI ca q_1129 45 (fun _ => 0)), (aJ ca q_1130 19 (fun _ => 0)), (aJ ca q_1131 19 (fun _ => 0)), (aJ ca q_1132 38 (fun _ => 0)), (aZ ca q_1133 2 (fun _ => 0)), (aZ ca q_1134 2 (fun _ => 0)), (aI ca q_1135 10 (fun _ => 0)), (aZ ca q_1136 1024 (fun _ => 0)), (aI ca q_1137 64 (fun _ => 0)), (aI ca q_1138 80 (fun _ => 0))] H := hP
  have hD : va_D A [(h0, .inr (11, [.int 0, .ref q_1124, .int 0, .int 0, .int 0, .int 0, .int 0, .int 0, .int 0, .int 0, .int 0, .int 0, .long 0, .int 0, .ref q_1125, .ref q_1126, .ref q_1127, .ref q_1128, .ref q_1129, .ref q_1130, .ref q_1131, .ref q_1132, .ref q_1133, .ref q_1134, .int 0, .int 0, .int 0, .int (-1), .int (-1), .int (-1), .ref q_1135, .int (-1), .int (-1), .ref q_1136, .int (-1), .int (-1), .ref q_1137, .int 0, .int 0, .ref q_1138, .null, .int 0, .int 0, .null, .int 0, .int 0, .int 0, .int 0])), (aI ca q_1124 940 (fun _ => 0)), (aI ca q_1125 376 (fun _ => 0)), (aI ca q_1126 89 (fun _ => 0)), (aI ca q_1127 752 (fun _ => 0)), (aI ca q_1128 360 (fun _ => 0)), (aI ca q_1129 45 (fun _ => 0)), (aJ ca q_1130 19 (fun _ => 0)), (aJ ca q_1131 19 (fun _ => 0)), (aJ ca q_1132 38 (fun _ => 0)), (aZ ca q_1133 2 (fun _ => 0)), (aZ ca q_1134 2 (fun _ => 0)), (aI ca q_1135 10 (fun _ => 0)), (aZ ca q_1136 1024 (fun _ => 0)), (aI ca q_1137 64 (fun _ => 0)), (aI ca q_1138 80 (fun _ => 0))] := hD
  refine lv_aload_n hx hb dX12_init_162 rfl (lv_at hl 0 rfl) ?_
  refine lv_iconst (v := 4) hx hb dX12_init_163 (by decide) ?_
  refine onewa hx hb (atype := .int) (ty := .int) k4 rfl hK hP hD hS hA 0 rfl (n := 4) (N' := 4) (4, .inl (fun _ => 0)) (fun _ => rfl) (by decide) (by decide) (by decide) (Nat.le_of_ble_eq_true rfl) (Nat.le_of_ble_eq_true rfl) dX12_init_164 (fun q_1139 H hP hD hS => ?_)
  have hP : va_P D vwCl [(h0, .inr (11, [.int 0, .ref q_1124, .int 0, .int 0, .int 0, .int 0, .int 0, .int 0, .int 0, .int 0, .int 0, .int 0, .long 0, .int 0, .ref q_1125, .ref q_1126, .ref q_1127, .ref q_1128, .ref q_1129, .ref q_1130, .ref q_1131, .ref q_1132, .ref q_1133, .ref q_1134, .int 0, .int 0, .int 0, .int (-1), .int (-1), .int (-1), .ref q_1135, .int (-1), .int (-1), .ref q_1136, .int (-1), .int (-1), .ref q_1137, .int 0, .int 0, .ref q_1138, .null, .int 0, .int 0, .null, .int 0, .int 0, .int 0, .int 0])), (aI ca q_1124 940 (fun _ => 0)), (aI ca q_1125 376 (fun _ => 0)), (aI ca q_1126 89 (fun _ => 0)), (aI ca q_1127 752 (fun _ => 0)), (aI ca q_1128 360 (fun _ => 0)), (aI ca q_1129 45 (fun _ => 0)), (aJ ca q_1130 19 (fun _ => 0)), (aJ ca q_1131 19 (fun _ => 0)), (aJ ca q_1132 38 (fun _ => 0)), (aZ ca q_1133 2 (fun _ => 0)), (aZ ca q_1134 2 (fun _ => 0)), (aI ca q_1135 10 (fun _ => 0)), (aZ ca q_1136 1024 (fun _ => 0)), (aI ca q_1137 64 (fun _ => 0)), (aI ca q_1138 80 (fun _ => 0)), (aI ca q_1139 4 (fun _ => 0))] H := hP
  have hD : va_D A [(h0, .inr (11, [.int 0, .ref q_1124, .int 0, .int 0, .int 0, .int 0, .int 0, .int 0, .int 0, .int 0, .int 0, .int 0, .long 0, .int 0, .ref q_1125, .ref q_1126, .ref q_1127, .ref q_1128, .ref q_1129, .ref q_1130, .ref q_1131, .ref q_1132, .ref q_1133, .ref q_1134, .int 0, .int 0, .int 0, .int (-1), .int (-1), .int (-1), .ref q_1135, .int (-1), .int (-1), .ref q_1136, .int (-1), .int (-1), .ref q_1137, .int 0, .int 0, .ref q_1138, .null, .int 0, .int 0, .null, .int 0, .int 0, .int 0, .int 0])), (aI ca q_1124 940 (fun _ => 0)), (aI ca q_1125 376 (fun _ => 0)), (aI ca q_1126 89 (fun _ => 0)), (aI ca q_1127 752 (fun _ => 0)), (aI ca q_1128 360 (fun _ => 0)), (aI ca q_1129 45 (fun _ => 0)), (aJ ca q_1130 19 (fun _ => 0)), (aJ ca q_1131 19 (fun _ => 0)), (aJ ca q_1132 38 (fun _ => 0)), (aZ ca q_1133 2 (fun _ => 0)), (aZ ca q_1134 2 (fun _ => 0)), (aI ca q_1135 10 (fun _ => 0)), (aZ ca q_1136 1024 (fun _ => 0)), (aI ca q_1137 64 (fun _ => 0)), (aI ca q_1138 80 (fun _ => 0)), (aI ca q_1139 4 (fun _ => 0))] := hD
  refine W.widen (k := 16) (n := 3824) (Nat.le_of_ble_eq_true rfl) (Nat.le_of_ble_eq_true rfl) ?_
  refine va_putF (D := D) (ci := 11) (v := .ref q_1139) (ty := .array .int) (C := RX12) (T := TX12) (N := 48) hx hb hts k6 tyX12 tyX12_ok nmX12 hown hK.1 hP hD hS 0 rfl rfl 40 (by decide) k30 (fun _ h9 => h9) rfl hin rfl (by decide +kernel) rfl rfl (Nat.le_of_ble_eq_true rfl) dX12_init_166 (fun H locs hP hD hS => ?_)
  have hP : va_P D vwCl [(h0, .inr (11, [.int 0, .ref q_1124, .int 0, .int 0, .int 0, .int 0, .int 0, .int 0, .int 0, .int 0, .int 0, .int 0, .long 0, .int 0, .ref q_1125, .ref q_1126, .ref q_1127, .ref q_1128, .ref q_1129, .ref q_1130, .ref q_1131, .ref q_1132, .ref q_1133, .ref q_1134, .int 0, .int 0, .int 0, .int (-1), .int (-1), .int (-1), .ref q_1135, .int (-1), .int (-1), .ref q_1136, .int (-1), .int (-1), .ref q_1137, .int 0, .int 0, .ref q_1138, .ref q_1139, .int 0, .int 0, .null, .int 0, .int 0, .int 0, .int 0])), (aI ca q_1124 940 (fun _ => 0)), (aI ca q_1125 376 (fun _ => 0)), (aI ca q_1126 89 (fun _ => 0)), (aI ca q_1127 752 (fun _ => 0)), (aI ca q_1128 360 (fun _ => 0)), (aI ca q_1129 45 (fun _ => 0)), (aJ ca q_1130 19 (fun _ => 0)), (aJ ca q_1131 19 (fun _ => 0)), (aJ ca q_1132 38 (fun _ => 0)), (aZ ca q_1133 2 (fun _ => 0)), (aZ ca q_1134 2 (fun _ => 0)), (aI ca q_1135 10 (fun _ => 0)), (aZ ca q_1136 1024 (fun _ => 0)), (aI ca q_1137 64 (fun _ => 0)), (aI ca q_1138 80 (fun _ => 0)), (aI ca q_1139 4 (fun _ => 0))] H := hP
  have hD : va_D A [(h0, .inr (11, [.int 0, .ref q_1124, .int 0, .int 0, .int 0, .int 0, .int 0, .int 0, .int 0, .int 0, .int 0, .int 0, .long 0, .int 0, .ref q_1125, .ref q_1126, .ref q_1127, .ref q_1128, .ref q_1129, .ref q_1130, .ref q_1131, .ref q_1132, .ref q_1133, .ref q_1134, .int 0, .int 0, .int 0, .int (-1), .int (-1), .int (-1), .ref q_1135, .int (-1), .int (-1), .ref q_1136, .int (-1), .int (-1), .ref q_1137, .int 0, .int 0, .ref q_1138, .ref q_1139, .int 0, .int 0, .null, .int 0, .int 0, .int 0, .int 0])), (aI ca q_1124 940 (fun _ => 0)), (aI ca q_1125 376 (fun _ => 0)), (aI ca q_1126 89 (fun _ => 0)), (aI ca q_1127 752 (fun _ => 0)), (aI ca q_1128 360 (fun _ => 0)), (aI ca q_1129 45 (fun _ => 0)), (aJ ca q_1130 19 (fun _ => 0)), (aJ ca q_1131 19 (fun _ => 0)), (aJ ca q_1132 38 (fun _ => 0)), (aZ ca q_1133 2 (fun _ => 0)), (aZ ca q_1134 2 (fun _ => 0)), (aI ca q_1135 10 (fun _ => 0)), (aZ ca q_1136 1024 (fun _ => 0)), (aI ca q_1137 64 (fun _ => 0)), (aI ca q_1138 80 (fun _ => 0)), (aI ca q_1139 4 (fun _ => 0))] := hD
  refine lv_aload_n hx hb dX12_init_169 rfl (lv_at hl 0 rfl) ?_
  refine lv_sipush (v := 240) hx hb dX12_init_170 (by decide) ?_
  refine onewa hx hb (atype := .int) (ty := .int) k4 rfl hK hP hD hS hA 0 rfl (n := 240) (N' := 240) (240, .inl (fun _ => 0)) (fun _ => rfl) (by decide) (by decide) (by decide) (Nat.le_of_ble_eq_true rfl) (Nat.le_of_ble_eq_true rfl) dX12_init_173 (fun q_1140 H hP hD hS => ?_)
  have hP : va_P D vwCl [(h0, .inr (11, [.int 0, .ref q_1124, .int 0, .int 0, .int 0, .int 0, .int 0, .int 0, .int 0, .int 0, .int 0, .int 0, .long 0, .int 0, .ref q_1125, .ref q_1126, .ref q_1127, .ref q_1128, .ref q_1129, .ref q_1130, .ref q_1131, .ref q_1132, .ref q_1133, .ref q_1134, .int 0, .int 0, .int 0, .int (-1), .int (-1), .int (-1), .ref q_1135, .int (-1), .int (-1), .ref q_1136, .int (-1), .int (-1), .ref q_1137, .int 0, .int 0, .ref q_1138, .ref q_1139, .int 0, .int 0, .null, .int 0, .int 0, .int 0, .int 0])), (aI ca q_1124 940 (fun _ => 0)), (aI ca q_1125 376 (fun _ => 0)), (aI ca q_1126 89 (fun _ => 0)), (aI ca q_1127 752 (fun _ => 0)), (aI ca q_1128 360 (fun _ => 0)), (aI ca q_1129 45 (fun _ => 0)), (aJ ca q_1130 19 (fun _ => 0)), (aJ ca q_1131 19 (fun _ => 0)), (aJ ca q_1132 38 (fun _ => 0)), (aZ ca q_1133 2 (fun _ => 0)), (aZ ca q_1134 2 (fun _ => 0)), (aI ca q_1135 10 (fun _ => 0)), (aZ ca q_1136 1024 (fun _ => 0)), (aI ca q_1137 64 (fun _ => 0)), (aI ca q_1138 80 (fun _ => 0)), (aI ca q_1139 4 (fun _ => 0)), (aI ca q_1140 240 (fun _ => 0))] H := hP
  have hD : va_D A [(h0, .inr (11, [.int 0, .ref q_1124, .int 0, .int 0, .int 0, .int 0, .int 0, .int 0, .int 0, .int 0, .int 0, .int 0, .long 0, .int 0, .ref q_1125, .ref q_1126, .ref q_1127, .ref q_1128, .ref q_1129, .ref q_1130, .ref q_1131, .ref q_1132, .ref q_1133, .ref q_1134, .int 0, .int 0, .int 0, .int (-1), .int (-1), .int (-1), .ref q_1135, .int (-1), .int (-1), .ref q_1136, .int (-1), .int (-1), .ref q_1137, .int 0, .int 0, .ref q_1138, .ref q_1139, .int 0, .int 0, .null, .int 0, .int 0, .int 0, .int 0])), (aI ca q_1124 940 (fun _ => 0)), (aI ca q_1125 376 (fun _ => 0)), (aI ca q_1126 89 (fun _ => 0)), (aI ca q_1127 752 (fun _ => 0)), (aI ca q_1128 360 (fun _ => 0)), (aI ca q_1129 45 (fun _ => 0)), (aJ ca q_1130 19 (fun _ => 0)), (aJ ca q_1131 19 (fun _ => 0)), (aJ ca q_1132 38 (fun _ => 0)), (aZ ca q_1133 2 (fun _ => 0)), (aZ ca q_1134 2 (fun _ => 0)), (aI ca q_1135 10 (fun _ => 0)), (aZ ca q_1136 1024 (fun _ => 0)), (aI ca q_1137 64 (fun _ => 0)), (aI ca q_1138 80 (fun _ => 0)), (aI ca q_1139 4 (fun _ => 0)), (aI ca q_1140 240 (fun _ => 0))] := hD
  refine W.widen (k := 17) (n := 4064) (Nat.le_of_ble_eq_true rfl) (Nat.le_of_ble_eq_true rfl) ?_
  refine va_putF (D := D) (ci := 11) (v := .ref q_1140) (ty := .array .int) (C := RX12) (T := TX12) (N := 48) hx hb hts k6 tyX12 tyX12_ok nmX12 hown hK.1 hP hD hS 0 rfl rfl 43 (by decide) k31 (fun _ h9 => h9) rfl hin rfl (by decide +kernel) rfl rfl (Nat.le_of_ble_eq_true rfl) dX12_init_175 (fun H locs hP hD hS => ?_)
  have hP : va_P D vwCl [(h0, .inr (11, [.int 0, .ref q_1124, .int 0, .int 0, .int 0, .int 0, .int 0, .int 0, .int 0, .int 0, .int 0, .int 0, .long 0, .int 0, .ref q_1125, .ref q_1126, .ref q_1127, .ref q_1128, .ref q_1129, .ref q_1130, .ref q_1131, .ref q_1132, .ref q_1133, .ref q_1134, .int 0, .int 0, .int 0, .int (-1), .int (-1), .int (-1), .ref q_1135, .int (-1), .int (-1), .ref q_1136, .int (-1), .int (-1), .ref q_1137, .int 0, .int 0, .ref q_1138, .ref q_1139, .int 0, .int 0, .ref q_1140, .int 0, .int 0, .int 0, .int 0])), (aI ca q_1124 940 (fun _ => 0)), (aI ca q_1125 376 (fun _ => 0)), (aI ca q_1126 89 (fun _ => 0)), (aI ca q_1127 752 (fun _ => 0)), (aI ca q_1128 360 (fun _ => 0)), (aI ca q_1129 45 (fun _ => 0)), (aJ ca q_1130 19 (fun _ => 0)), (aJ ca q_1131 19 (fun _ => 0)), (aJ ca q_1132 38 (fun _ => 0)), (aZ ca q_1133 2 (fun _ => 0)), (aZ ca q_1134 2 (fun _ => 0)), (aI ca q_1135 10 (fun _ => 0)), (aZ ca q_1136 1024 (fun _ => 0)), (aI ca q_1137 64 (fun _ => 0)), (aI ca q_1138 80 (fun _ => 0)), (aI ca q_1139 4 (fun _ => 0)), (aI ca q_1140 240 (fun _ => 0))] H := hP
  have hD : va_D A [(h0, .inr (11, [.int 0, .ref q_1124, .int 0, .int 0, .int 0, .int 0, .int 0, .int 0, .int 0, .int 0, .int 0, .int 0, .long 0, .int 0, .ref q_1125, .ref q_1126, .ref q_1127, .ref q_1128, .ref q_1129, .ref q_1130, .ref q_1131, .ref q_1132, .ref q_1133, .ref q_1134, .int 0, .int 0, .int 0, .int (-1), .int (-1), .int (-1), .ref q_1135, .int (-1), .int (-1), .ref q_1136, .int (-1), .int (-1), .ref q_1137, .int 0, .int 0, .ref q_1138, .ref q_1139, .int 0, .int 0, .ref q_1140, .int 0, .int 0, .int 0, .int 0])), (aI ca q_1124 940 (fun _ => 0)), (aI ca q_1125 376 (fun _ => 0)), (aI ca q_1126 89 (fun _ => 0)), (aI ca q_1127 752 (fun _ => 0)), (aI ca q_1128 360 (fun _ => 0)), (aI ca q_1129 45 (fun _ => 0)), (aJ ca q_1130 19 (fun _ => 0)), (aJ ca q_1131 19 (fun _ => 0)), (aJ ca q_1132 38 (fun _ => 0)), (aZ ca q_1133 2 (fun _ => 0)), (aZ ca q_1134 2 (fun _ => 0)), (aI ca q_1135 10 (fun _ => 0)), (aZ ca q_1136 1024 (fun _ => 0)), (aI ca q_1137 64 (fun _ => 0)), (aI ca q_1138 80 (fun _ => 0)), (aI ca q_1139 4 (fun _ => 0)), (aI ca q_1140 240 (fun _ => 0))] := hD
  refine lv_aload_n hx hb dX12_init_178 rfl (lv_at hl 0 rfl) ?_
  refine oC_v (Wc := [(h0, .inr (11, [.int 0, .ref q_1124, .int 0, .int 0, .int 0, .int 0, .int 0, .int 0, .int 0, .int 0, .int 0, .int 0, .long 0, .int 0, .ref q_1125, .ref q_1126, .ref q_1127, .ref q_1128, .ref q_1129, .ref q_1130, .ref q_1131, .ref q_1132, .ref q_1133, .ref q_1134, .int 0, .int 0, .int 0, .int (-1), .int (-1), .int (-1), .ref q_1135, .int (-1), .int (-1), .ref q_1136, .int (-1), .int (-1), .ref q_1137, .int 0, .int 0, .ref q_1138, .ref q_1139, .int 0, .int 0, .ref q_1140, .int 0, .int 0, .int 0, .int 0])), (aI ca q_1126 89 (fun _ => 0)), (aZ ca q_1134 2 (fun _ => 0))]) (Wr := [(aI ca q_1124 940 (fun _ => 0)), (aI ca q_1125 376 (fun _ => 0)), (aI ca q_1127 752 (fun _ => 0)), (aI ca q_1128 360 (fun _ => 0)), (aI ca q_1129 45 (fun _ => 0)), (aJ ca q_1130 19 (fun _ => 0)), (aJ ca q_1131 19 (fun _ => 0)), (aJ ca q_1132 38 (fun _ => 0)), (aZ ca q_1133 2 (fun _ => 0)), (aI ca q_1135 10 (fun _ => 0)), (aZ ca q_1136 1024 (fun _ => 0)), (aI ca q_1137 64 (fun _ => 0)), (aI ca q_1138 80 (fun _ => 0)), (aI ca q_1139 4 (fun _ => 0)), (aI ca q_1140 240 (fun _ => 0))]) (va_runV (As := []) (rest := []) ⟨hx, hb, hml, hown, hts⟩ (s_X12_startRead l D ca H.size h0 0 q_1124 0 0 0 0 0 0 0 0 0 0 0 0 q_1125 q_1126 q_1127 q_1128 q_1129 q_1130 q_1131 q_1132 q_1133 q_1134 0 0 0 (-1) (-1) (-1) q_1135 (-1) (-1) q_1136 (-1) (-1) q_1137 0 0 q_1138 q_1139 0 0 q_1140 0 0 0 0 (fun _ => 0) (fun _ => 0) (⟨by decide, by decide⟩ : rg 0 940 (0 : Int32)) (⟨by decide, by decide⟩ : rg 0 940 (0 : Int32)) (⟨by decide, by decide⟩ : rg 0 940 (0 : Int32)) (⟨by decide, by decide⟩ : rg 0 4 (0 : Int32)) (⟨by decide, by decide⟩ : rg 0 8 (0 : Int32)) (⟨by decide, by decide⟩ : rg 0 64 (0 : Int32)) (⟨by decide, by decide⟩ : rg 0 40 (0 : Int32)) (⟨by decide, by decide⟩ : rg 0 1 (0 : Int32)) (⟨by decide, by decide⟩ : rg 0 60 (0 : Int32)) (⟨by decide, by decide⟩ : rg 0 20 (0 : Int32)) (sg_z (a := 0) (b := 1) (lo := 0) (hi := 10) (by decide) (by decide)) (sg_z (a := 1) (b := 2) (lo := 0) (hi := 4) (by decide) (by decide)) (sg_z (a := 2) (b := 3) (lo := 0) (hi := 5) (by decide) (by decide)) (sg_z (a := 35) (b := 36) (lo := 0) (hi := 1023) (by decide) (by decide)) (sg_z (a := 44) (b := 49) (lo := 0) (hi := 3) (by decide) (by decide))) (cwV 0 hts gX12_init_X12_startRead rfl rfl rfl (by decide +kernel) ⟨Nat.le_of_ble_eq_true rfl, Nat.le_of_ble_eq_true rfl⟩) (oPV (C := RX12) hK hP hD [0, 3, 11] rfl (by decide) 0 rfl (ci := 11) rfl rfl) rfl rfl hl.1 rfl (lv_room (Nat.le_of_ble_eq_true rfl)) dX12_init_179 ⟨Nat.le_of_ble_eq_true rfl, Nat.le_of_ble_eq_true rfl⟩) hP hD hS hA [0, 3, 11] [1, 2, 4, 5, 6, 7, 8, 9, 10, 12, 13, 14, 15, 16, 17] rfl rfl (by decide) (by decide) (fun u H locs w_1142 hP hD hS => ?_)
  obtain ⟨u_1143, u_1144⟩ := u
  have hP : va_P D vwCl [(aI ca q_1124 940 (fun _ => 0)), (aI ca q_1125 376 (fun _ => 0)), (aI ca q_1127 752 (fun _ => 0)), (aI ca q_1128 360 (fun _ => 0)), (aI ca q_1129 45 (fun _ => 0)), (aJ ca q_1130 19 (fun _ => 0)), (aJ ca q_1131 19 (fun _ => 0)), (aJ ca q_1132 38 (fun _ => 0)), (aZ ca q_1133 2 (fun _ => 0)), (aI ca q_1135 10 (fun _ => 0)), (aZ ca q_1136 1024 (fun _ => 0)), (aI ca q_1137 64 (fun _ => 0)), (aI ca q_1138 80 (fun _ => 0)), (aI ca q_1139 4 (fun _ => 0)), (aI ca q_1140 240 (fun _ => 0)), (h0, .inr (11, [.int 0, .ref q_1124, .int 0, .int 0, .int 0, .int 0, .int 0, .int 0, .int 0, .int 0, .int 0, .int 0, .long 0, .int 0, .ref q_1125, .ref q_1126, .ref q_1127, .ref q_1128, .ref q_1129, .ref q_1130, .ref q_1131, .ref q_1132, .ref q_1133, .ref q_1134, .int 0, .int 0, .int 0, .int (-1), .int (-1), .int (-1), .ref q_1135, .int (-1), .int (-1), .ref q_1136, .int (-1), .int (-1), .ref q_1137, .int 0, .int 0, .ref q_1138, .ref q_1139, .int 0, .int 0, .ref q_1140, .int 0, .int 0, .int 0, .int 0])), (aI ca q_1126 89 u_1143), (aZ ca q_1134 2 u_1144)] H := hP
  have hD : va_D A [(aI ca q_1124 940 (fun _ => 0)), (aI ca q_1125 376 (fun _ => 0)), (aI ca q_1127 752 (fun _ => 0)), (aI ca q_1128 360 (fun _ => 0)), (aI ca q_1129 45 (fun _ => 0)), (aJ ca q_1130 19 (fun _ => 0)), (aJ ca q_1131 19 (fun _ => 0)), (aJ ca q_1132 38 (fun _ => 0)), (aZ ca q_1133 2 (fun _ => 0)), (aI ca q_1135 10 (fun _ => 0)), (aZ ca q_1136 1024 (fun _ => 0)), (aI ca q_1137 64 (fun _ => 0)), (aI ca q_1138 80 (fun _ => 0)), (aI ca q_1139 4 (fun _ => 0)), (aI ca q_1140 240 (fun _ => 0)), (h0, .inr (11, [.int 0, .ref q_1124, .int 0, .int 0, .int 0, .int 0, .int 0, .int 0, .int 0, .int 0, .int 0, .int 0, .long 0, .int 0, .ref q_1125, .ref q_1126, .ref q_1127, .ref q_1128, .ref q_1129, .ref q_1130, .ref q_1131, .ref q_1132, .ref q_1133, .ref q_1134, .int 0, .int 0, .int 0, .int (-1), .int (-1), .int (-1), .ref q_1135, .int (-1), .int (-1), .ref q_1136, .int (-1), .int (-1), .ref q_1137, .int 0, .int 0, .ref q_1138, .ref q_1139, .int 0, .int 0, .ref q_1140, .int 0, .int 0, .int 0, .int 0])), (aI ca q_1126 89 u_1143), (aZ ca q_1134 2 u_1144)] := hD
  try dsimp only at w_1142
  obtain ⟨h_1145, h_1146, h_1147, h_1148, h_1149, h_1150, h_1151⟩ := w_1142
  refine lv_iconst (v := 0) hx hb dX12_init_182 (by decide) ?_
  refine lv_istore_n (lv' := [(1, .int 0), (0, .ref h0)]) hx hb dX12_init_183 rfl hl (by decide) rfl (fun ls hl => ?_)
  refine lv_iload_n hx hb dX12_init_184 rfl (lv_at hl 0 rfl) ?_
  refine lv_bipush (v := 89) hx hb dX12_init_185 (by decide) ?_
  refine lv_icmp_ge (tgt := 208) hx hb dX12_init_187 (by decide) (fun c => absurd c (by decide)) (fun _ => ?_)
  refine lv_aload_n hx hb dX12_init_190 rfl (lv_at hl 1 rfl) ?_
  refine va_get (D := D) (ci := 11) (v := .ref q_1125) (C := RX12) (T := TX12) (N := 48) hx hb hts k6 hown hK.1 hP 15 rfl rfl 14 (by decide) k7 (fun _ h9 => h9) rfl dX12_init_191 ?_
  refine lv_iload_n hx hb dX12_init_194 rfl (lv_at hl 0 rfl) ?_
  refine lv_aload_n hx hb dX12_init_195 rfl (lv_at hl 1 rfl) ?_
  refine va_get (D := D) (ci := 11) (v := .ref q_1126) (C := RX12) (T := TX12) (N := 48) hx hb hts k6 hown hK.1 hP 15 rfl rfl 15 (by decide) k8 (fun _ h9 => h9) rfl dX12_init_196 ?_
  refine lv_iload_n hx hb dX12_init_199 rfl (lv_at hl 0 rfl) ?_
  refine va_iald hx hb hK.1 hP 16 0 rfl rfl (rg_in (⟨by decide, by decide⟩ : rg 0 0 (0 : Int32)) (by decide) (by decide)) dX12_init_200 ?_
  refine lv_topi (fun x_1152 ex_1152 => ?_)
  have h_1153 : rg 0 10 x_1152 := by rw [ex_1152]; exact sg_at h_1145 (⟨by decide, by decide⟩ : rg 0 0 (0 : Int32)) (by decide) (by decide) (by decide)
  refine va_iast hx hb hK.1 hP hD hS 1 0 rfl rfl (rg_in (⟨by decide, by decide⟩ : rg 0 0 (0 : Int32)) (by decide) (by decide)) dX12_init_201 (fun H locs hP hD hS => ?_)
  obtain ⟨g_1154, eg_1154⟩ : ∃ y : Nat → Int32, y = upd (fun _ => 0) (0 : Int32).toNatClampNeg (x_1152 : Int32) := ⟨_, rfl⟩
  rw [← eg_1154] at hP hD
  have s_1156 : sg 1 376 0 0 g_1154 := sg_out (sg_w (sg_z (a := 0) (b := 376) (lo := 0) (hi := 0) (by decide) (by decide)) (by decide) (by decide) (by decide) (by decide)) eg_1154 (⟨by decide, by decide⟩ : rg 0 0 (0 : Int32)) (by decide) (by decide)
  have s_1157 : sg 0 1 0 10 g_1154 := sg_one eg_1154 h_1153
  have hP : va_P D vwCl [(aI ca q_1124 940 (fun _ => 0)), (aI ca q_1125 376 g_1154), (aI ca q_1127 752 (fun _ => 0)), (aI ca q_1128 360 (fun _ => 0)), (aI ca q_1129 45 (fun _ => 0)), (aJ ca q_1130 19 (fun _ => 0)), (aJ ca q_1131 19 (fun _ => 0)), (aJ ca q_1132 38 (fun _ => 0)), (aZ ca q_1133 2 (fun _ => 0)), (aI ca q_1135 10 (fun _ => 0)), (aZ ca q_1136 1024 (fun _ => 0)), (aI ca q_1137 64 (fun _ => 0)), (aI ca q_1138 80 (fun _ => 0)), (aI ca q_1139 4 (fun _ => 0)), (aI ca q_1140 240 (fun _ => 0)), (h0, .inr (11, [.int 0, .ref q_1124, .int 0, .int 0, .int 0, .int 0, .int 0, .int 0, .int 0, .int 0, .int 0, .int 0, .long 0, .int 0, .ref q_1125, .ref q_1126, .ref q_1127, .ref q_1128, .ref q_1129, .ref q_1130, .ref q_1131, .ref q_1132, .ref q_1133, .ref q_1134, .int 0, .int 0, .int 0, .int (-1), .int (-1), .int (-1), .ref q_1135, .int (-1), .int (-1), .ref q_1136, .int (-1), .int (-1), .ref q_1137, .int 0, .int 0, .ref q_1138, .ref q_1139, .int 0, .int 0, .ref q_1140, .int 0, .int 0, .int 0, .int 0])), (aI ca q_1126 89 u_1143), (aZ ca q_1134 2 u_1144)] H := hP
  have hD : va_D A [(aI ca q_1124 940 (fun _ => 0)), (aI ca q_1125 376 g_1154), (aI ca q_1127 752 (fun _ => 0)), (aI ca q_1128 360 (fun _ => 0)), (aI ca q_1129 45 (fun _ => 0)), (aJ ca q_1130 19 (fun _ => 0)), (aJ ca q_1131 19 (fun _ => 0)), (aJ ca q_1132 38 (fun _ => 0)), (aZ ca q_1133 2 (fun _ => 0)), (aI ca q_1135 10 (fun _ => 0)), (aZ ca q_1136 1024 (fun _ => 0)), (aI ca q_1137 64 (fun _ => 0)), (aI ca q_1138 80 (fun _ => 0)), (aI ca q_1139 4 (fun _ => 0)), (aI ca q_1140 240 (fun _ => 0)), (h0, .inr (11, [.int 0, .ref q_1124, .int 0, .int 0, .int 0, .int 0, .int 0, .int 0, .int 0, .int 0, .int 0, .int 0, .long 0, .int 0, .ref q_1125, .ref q_1126, .ref q_1127, .ref q_1128, .ref q_1129, .ref q_1130, .ref q_1131, .ref q_1132, .ref q_1133, .ref q_1134, .int 0, .int 0, .int 0, .int (-1), .int (-1), .int (-1), .ref q_1135, .int (-1), .int (-1), .ref q_1136, .int (-1), .int (-1), .ref q_1137, .int 0, .int 0, .ref q_1138, .ref q_1139, .int 0, .int 0, .ref q_1140, .int 0, .int 0, .int 0, .int 0])), (aI ca q_1126 89 u_1143), (aZ ca q_1134 2 u_1144)] := hD
  refine lv_iinc (v := 1) (lv' := [(1, .int 1), (0, .ref h0)]) hx hb dX12_init_202 hl (k := 0) rfl (by decide) (by decide) rfl (fun ls hl => ?_)
  refine lv_goto (tgt := 184) hx hb dX12_init_205 (by decide) ?_
  clear ex_1152 h_1153 eg_1154
  refine lv_iload_n hx hb dX12_init_184 rfl (lv_at hl 0 rfl) ?_
  refine lv_bipush (v := 89) hx hb dX12_init_185 (by decide) ?_
  refine lv_icmp_ge (tgt := 208) hx hb dX12_init_187 (by decide) (fun c => absurd c (by decide)) (fun _ => ?_)
  refine lv_aload_n hx hb dX12_init_190 rfl (lv_at hl 1 rfl) ?_
  refine va_get (D := D) (ci := 11) (v := .ref q_1125) (C := RX12) (T := TX12) (N := 48) hx hb hts k6 hown hK.1 hP 15 rfl rfl 14 (by decide) k7 (fun _ h9 => h9) rfl dX12_init_191 ?_
  refine lv_iload_n hx hb dX12_init_194 rfl (lv_at hl 0 rfl) ?_
  refine lv_aload_n hx hb dX12_init_195 rfl (lv_at hl 1 rfl) ?_
  refine va_get (D := D) (ci := 11) (v := .ref q_1126) (C := RX12) (T := TX12) (N := 48) hx hb hts k6 hown hK.1 hP 15 rfl rfl 15 (by decide) k8 (fun _ h9 => h9) rfl dX12_init_196 ?_
  refine lv_iload_n hx hb dX12_init_199 rfl (lv_at hl 0 rfl) ?_
  refine va_iald hx hb hK.1 hP 16 0 rfl rfl (rg_in (⟨by decide, by decide⟩ : rg 1 1 (1 : Int32)) (by decide) (by decide)) dX12_init_200 ?_
  refine lv_topi (fun x_1158 ex_1158 => ?_)
  have h_1159 : rg 0 4 x_1158 := by rw [ex_1158]; exact sg_at h_1146 (⟨by decide, by decide⟩ : rg 1 1 (1 : Int32)) (by decide) (by decide) (by decide)
  refine va_iast hx hb hK.1 hP hD hS 1 0 rfl rfl (rg_in (⟨by decide, by decide⟩ : rg 1 1 (1 : Int32)) (by decide) (by decide)) dX12_init_201 (fun H locs hP hD hS => ?_)
  obtain ⟨g_1160, eg_1160⟩ : ∃ y : Nat → Int32, y = upd g_1154 (1 : Int32).toNatClampNeg (x_1158 : Int32) := ⟨_, rfl⟩
  rw [← eg_1160] at hP hD
  have s_1162 : sg 2 376 0 0 g_1160 := sg_out (sg_w s_1156 (by decide) (by decide) (by decide) (by decide)) eg_1160 (⟨by decide, by decide⟩ : rg 1 1 (1 : Int32)) (by decide) (by decide)
  have s_1163 : sg 0 1 0 10 g_1160 := sg_out s_1157 eg_1160 (⟨by decide, by decide⟩ : rg 1 1 (1 : Int32)) (by decide) (by decide)
  have s_1164 : sg 1 2 0 4 g_1160 := sg_one eg_1160 h_1159
  have hP : va_P D vwCl [(aI ca q_1124 940 (fun _ => 0)), (aI ca q_1125 376 g_1160), (aI ca q_1127 752 (fun _ => 0)), (aI ca q_1128 360 (fun _ => 0)), (aI ca q_1129 45 (fun _ => 0)), (aJ ca q_1130 19 (fun _ => 0)), (aJ ca q_1131 19 (fun _ => 0)), (aJ ca q_1132 38 (fun _ => 0)), (aZ ca q_1133 2 (fun _ => 0)), (aI ca q_1135 10 (fun _ => 0)), (aZ ca q_1136 1024 (fun _ => 0)), (aI ca q_1137 64 (fun _ => 0)), (aI ca q_1138 80 (fun _ => 0)), (aI ca q_1139 4 (fun _ => 0)), (aI ca q_1140 240 (fun _ => 0)), (h0, .inr (11, [.int 0, .ref q_1124, .int 0, .int 0, .int 0, .int 0, .int 0, .int 0, .int 0, .int 0, .int 0, .int 0, .long 0, .int 0, .ref q_1125, .ref q_1126, .ref q_1127, .ref q_1128, .ref q_1129, .ref q_1130, .ref q_1131, .ref q_1132, .ref q_1133, .ref q_1134, .int 0, .int 0, .int 0, .int (-1), .int (-1), .int (-1), .ref q_1135, .int (-1), .int (-1), .ref q_1136, .int (-1), .int (-1), .ref q_1137, .int 0, .int 0, .ref q_1138, .ref q_1139, .int 0, .int 0, .ref q_1140, .int 0, .int 0, .int 0, .int 0])), (aI ca q_1126 89 u_1143), (aZ ca q_1134 2 u_1144)] H := hP
  have hD : va_D A [(aI ca q_1124 940 (fun _ => 0)), (aI ca q_1125 376 g_1160), (aI ca q_1127 752 (fun _ => 0)), (aI ca q_1128 360 (fun _ => 0)), (aI ca q_1129 45 (fun _ => 0)), (aJ ca q_1130 19 (fun _ => 0)), (aJ ca q_1131 19 (fun _ => 0)), (aJ ca q_1132 38 (fun _ => 0)), (aZ ca q_1133 2 (fun _ => 0)), (aI ca q_1135 10 (fun _ => 0)), (aZ ca q_1136 1024 (fun _ => 0)), (aI ca q_1137 64 (fun _ => 0)), (aI ca q_1138 80 (fun _ => 0)), (aI ca q_1139 4 (fun _ => 0)), (aI ca q_1140 240 (fun _ => 0)), (h0, .inr (11, [.int 0, .ref q_1124, .int 0, .int 0, .int 0, .int 0, .int 0, .int 0, .int 0, .int 0, .int 0, .int 0, .long 0, .int 0, .ref q_1125, .ref q_1126, .ref q_1127, .ref q_1128, .ref q_1129, .ref q_1130, .ref q_1131, .ref q_1132, .ref q_1133, .ref q_1134, .int 0, .int 0, .int 0, .int (-1), .int (-1), .int (-1), .ref q_1135, .int (-1), .int (-1), .ref q_1136, .int (-1), .int (-1), .ref q_1137, .int 0, .int 0, .ref q_1138, .ref q_1139, .int 0, .int 0, .ref q_1140, .int 0, .int 0, .int 0, .int 0])), (aI ca q_1126 89 u_1143), (aZ ca q_1134 2 u_1144)] := hD
  refine lv_iinc (v := 2) (lv' := [(1, .int 2), (0, .ref h0)]) hx hb dX12_init_202 hl (k := 0) rfl (by decide) (by decide) rfl (fun ls hl => ?_)
  refine lv_goto (tgt := 184) hx hb dX12_init_205 (by decide) ?_
  clear s_1156 s_1157 ex_1158 h_1159 eg_1160
  refine lv_iload_n hx hb dX12_init_184 rfl (lv_at hl 0 rfl) ?_
  refine lv_bipush (v := 89) hx hb dX12_init_185 (by decide) ?_
  refine lv_icmp_ge (tgt := 208) hx hb dX12_init_187 (by decide) (fun c => absurd c (by decide)) (fun _ => ?_)
  refine lv_aload_n hx hb dX12_init_190 rfl (lv_at hl 1 rfl) ?_
  refine va_get (D := D) (ci := 11) (v := .ref q_1125) (C := RX12) (T := TX12) (N := 48) hx hb hts k6 hown hK.1 hP 15 rfl rfl 14 (by decide) k7 (fun _ h9 => h9) rfl dX12_init_191 ?_
  refine lv_iload_n hx hb dX12_init_194 rfl (lv_at hl 0 rfl) ?_
  refine lv_aload_n hx hb dX12_init_195 rfl (lv_at hl 1 rfl) ?_
  refine va_get (D := D) (ci := 11) (v := .ref q_1126) (C := RX12) (T := TX12) (N := 48) hx hb hts k6 hown hK.1 hP 15 rfl rfl 15 (by decide) k8 (fun _ h9 => h9) rfl dX12_init_196 ?_
  refine lv_iload_n hx hb dX12_init_199 rfl (lv_at hl 0 rfl) ?_
  refine va_iald hx hb hK.1 hP 16 0 rfl rfl (rg_in (⟨by decide, by decide⟩ : rg 2 2 (2 : Int32)) (by decide) (by decide)) dX12_init_200 ?_
  refine lv_topi (fun x_1165 ex_1165 => ?_)
  have h_1166 : rg 0 5 x_1165 := by rw [ex_1165]; exact sg_at h_1147 (⟨by decide, by decide⟩ : rg 2 2 (2 : Int32)) (by decide) (by decide) (by decide)
  refine va_iast hx hb hK.1 hP hD hS 1 0 rfl rfl (rg_in (⟨by decide, by decide⟩ : rg 2 2 (2 : Int32)) (by decide) (by decide)) dX12_init_201 (fun H locs hP hD hS => ?_)
  obtain ⟨g_1167, eg_1167⟩ : ∃ y : Nat → Int32, y = upd g_1160 (2 : Int32).toNatClampNeg (x_1165 : Int32) := ⟨_, rfl⟩
  rw [← eg_1167] at hP hD
  have s_1169 : sg 3 376 0 0 g_1167 := sg_out (sg_w s_1162 (by decide) (by decide) (by decide) (by decide)) eg_1167 (⟨by decide, by decide⟩ : rg 2 2 (2 : Int32)) (by decide) (by decide)
  have s_1170 : sg 0 1 0 10 g_1167 := sg_out s_1163 eg_1167 (⟨by decide, by decide⟩ : rg 2 2 (2 : Int32)) (by decide) (by decide)
  have s_1171 : sg 1 2 0 4 g_1167 := sg_out s_1164 eg_1167 (⟨by decide, by decide⟩ : rg 2 2 (2 : Int32)) (by decide) (by decide)
  have s_1172 : sg 2 3 0 5 g_1167 := sg_one eg_1167 h_1166
  have hP : va_P D vwCl [(aI ca q_1124 940 (fun _ => 0)), (aI ca q_1125 376 g_1167), (aI ca q_1127 752 (fun _ => 0)), (aI ca q_1128 360 (fun _ => 0)), (aI ca q_1129 45 (fun _ => 0)), (aJ ca q_1130 19 (fun _ => 0)), (aJ ca q_1131 19 (fun _ => 0)), (aJ ca q_1132 38 (fun _ => 0)), (aZ ca q_1133 2 (fun _ => 0)), (aI ca q_1135 10 (fun _ => 0)), (aZ ca q_1136 1024 (fun _ => 0)), (aI ca q_1137 64 (fun _ => 0)), (aI ca q_1138 80 (fun _ => 0)), (aI ca q_1139 4 (fun _ => 0)), (aI ca q_1140 240 (fun _ => 0)), (h0, .inr (11, [.int 0, .ref q_1124, .int 0, .int 0, .int 0, .int 0, .int 0, .int 0, .int 0, .int 0, .int 0, .int 0, .long 0, .int 0, .ref q_1125, .ref q_1126, .ref q_1127, .ref q_1128, .ref q_1129, .ref q_1130, .ref q_1131, .ref q_1132, .ref q_1133, .ref q_1134, .int 0, .int 0, .int 0, .int (-1), .int (-1), .int (-1), .ref q_1135, .int (-1), .int (-1), .ref q_1136, .int (-1), .int (-1), .ref q_1137, .int 0, .int 0, .ref q_1138, .ref q_1139, .int 0, .int 0, .ref q_1140, .int 0, .int 0, .int 0, .int 0])), (aI ca q_1126 89 u_1143), (aZ ca q_1134 2 u_1144)] H := hP
  have hD : va_D A [(aI ca q_1124 940 (fun _ => 0)), (aI ca q_1125 376 g_1167), (aI ca q_1127 752 (fun _ => 0)), (aI ca q_1128 360 (fun _ => 0)), (aI ca q_1129 45 (fun _ => 0)), (aJ ca q_1130 19 (fun _ => 0)), (aJ ca q_1131 19 (fun _ => 0)), (aJ ca q_1132 38 (fun _ => 0)), (aZ ca q_1133 2 (fun _ => 0)), (aI ca q_1135 10 (fun _ => 0)), (aZ ca q_1136 1024 (fun _ => 0)), (aI ca q_1137 64 (fun _ => 0)), (aI ca q_1138 80 (fun _ => 0)), (aI ca q_1139 4 (fun _ => 0)), (aI ca q_1140 240 (fun _ => 0)), (h0, .inr (11, [.int 0, .ref q_1124, .int 0, .int 0, .int 0, .int 0, .int 0, .int 0, .int 0, .int 0, .int 0, .int 0, .long 0, .int 0, .ref q_1125, .ref q_1126, .ref q_1127, .ref q_1128, .ref q_1129, .ref q_1130, .ref q_1131, .ref q_1132, .ref q_1133, .ref q_1134, .int 0, .int 0, .int 0, .int (-1), .int (-1), .int (-1), .ref q_1135, .int (-1), .int (-1), .ref q_1136, .int (-1), .int (-1), .ref q_1137, .int 0, .int 0, .ref q_1138, .ref q_1139, .int 0, .int 0, .ref q_1140, .int 0, .int 0, .int 0, .int 0])), (aI ca q_1126 89 u_1143), (aZ ca q_1134 2 u_1144)] := hD
  refine lv_iinc (v := 3) (lv' := [(1, .int 3), (0, .ref h0)]) hx hb dX12_init_202 hl (k := 0) rfl (by decide) (by decide) rfl (fun ls hl => ?_)
  refine lv_goto (tgt := 184) hx hb dX12_init_205 (by decide) ?_
  clear s_1162 s_1163 s_1164 ex_1165 h_1166 eg_1167
  refine lv_iload_n hx hb dX12_init_184 rfl (lv_at hl 0 rfl) ?_
  refine lv_bipush (v := 89) hx hb dX12_init_185 (by decide) ?_
  refine lv_icmp_ge (tgt := 208) hx hb dX12_init_187 (by decide) (fun c => absurd c (by decide)) (fun _ => ?_)
  refine lv_aload_n hx hb dX12_init_190 rfl (lv_at hl 1 rfl) ?_
  refine va_get (D := D) (ci := 11) (v := .ref q_1125) (C := RX12) (T := TX12) (N := 48) hx hb hts k6 hown hK.1 hP 15 rfl rfl 14 (by decide) k7 (fun _ h9 => h9) rfl dX12_init_191 ?_
  refine lv_iload_n hx hb dX12_init_194 rfl (lv_at hl 0 rfl) ?_
  refine lv_aload_n hx hb dX12_init_195 rfl (lv_at hl 1 rfl) ?_
  refine va_get (D := D) (ci := 11) (v := .ref q_1126) (C := RX12) (T := TX12) (N := 48) hx hb hts k6 hown hK.1 hP 15 rfl rfl 15 (by decide) k8 (fun _ h9 => h9) rfl dX12_init_196 ?_
  refine lv_iload_n hx hb dX12_init_199 rfl (lv_at hl 0 rfl) ?_
  refine va_iald hx hb hK.1 hP 16 0 rfl rfl (rg_in (⟨by decide, by decide⟩ : rg 3 3 (3 : Int32)) (by decide) (by decide)) dX12_init_200 ?_
  refine lv_topi (fun x_1173 ex_1173 => ?_)
  have h_1174 : rg 3 3 x_1173 := by rw [ex_1173]; exact sg_at h_1150 (⟨by decide, by decide⟩ : rg 3 3 (3 : Int32)) (by decide) (by decide) (by decide)
  refine va_iast hx hb hK.1 hP hD hS 1 0 rfl rfl (rg_in (⟨by decide, by decide⟩ : rg 3 3 (3 : Int32)) (by decide) (by decide)) dX12_init_201 (fun H locs hP hD hS => ?_)
  obtain ⟨g_1175, eg_1175⟩ : ∃ y : Nat → Int32, y = upd g_1167 (3 : Int32).toNatClampNeg (x_1173 : Int32) := ⟨_, rfl⟩
  rw [← eg_1175] at hP hD
  have s_1177 : sg 4 376 0 0 g_1175 := sg_out (sg_w s_1169 (by decide) (by decide) (by decide) (by decide)) eg_1175 (⟨by decide, by decide⟩ : rg 3 3 (3 : Int32)) (by decide) (by decide)
  have s_1178 : sg 0 1 0 10 g_1175 := sg_out s_1170 eg_1175 (⟨by decide, by decide⟩ : rg 3 3 (3 : Int32)) (by decide) (by decide)
  have s_1179 : sg 1 2 0 4 g_1175 := sg_out s_1171 eg_1175 (⟨by decide, by decide⟩ : rg 3 3 (3 : Int32)) (by decide) (by decide)
  have s_1180 : sg 2 3 0 5 g_1175 := sg_out s_1172 eg_1175 (⟨by decide, by decide⟩ : rg 3 3 (3 : Int32)) (by decide) (by decide)
  have s_1181 : sg 3 4 3 3 g_1175 := sg_one eg_1175 h_1174
  have hP : va_P D vwCl [(aI ca q_1124 940 (fun _ => 0)), (aI ca q_1125 376 g_1175), (aI ca q_1127 752 (fun _ => 0)), (aI ca q_1128 360 (fun _ => 0)), (aI ca q_1129 45 (fun _ => 0)), (aJ ca q_1130 19 (fun _ => 0)), (aJ ca q_1131 19 (fun _ => 0)), (aJ ca q_1132 38 (fun _ => 0)), (aZ ca q_1133 2 (fun _ => 0)), (aI ca q_1135 10 (fun _ => 0)), (aZ ca q_1136 1024 (fun _ => 0)), (aI ca q_1137 64 (fun _ => 0)), (aI ca q_1138 80 (fun _ => 0)), (aI ca q_1139 4 (fun _ => 0)), (aI ca q_1140 240 (fun _ => 0)), (h0, .inr (11, [.int 0, .ref q_1124, .int 0, .int 0, .int 0, .int 0, .int 0, .int 0, .int 0, .int 0, .int 0, .int 0, .long 0, .int 0, .ref q_1125, .ref q_1126, .ref q_1127, .ref q_1128, .ref q_1129, .ref q_1130, .ref q_1131, .ref q_1132, .ref q_1133, .ref q_1134, .int 0, .int 0, .int 0, .int (-1), .int (-1), .int (-1), .ref q_1135, .int (-1), .int (-1), .ref q_1136, .int (-1), .int (-1), .ref q_1137, .int 0, .int 0, .ref q_1138, .ref q_1139, .int 0, .int 0, .ref q_1140, .int 0, .int 0, .int 0, .int 0])), (aI ca q_1126 89 u_1143), (aZ ca q_1134 2 u_1144)] H := hP
  have hD : va_D A [(aI ca q_1124 940 (fun _ => 0)), (aI ca q_1125 376 g_1175), (aI ca q_1127 752 (fun _ => 0)), (aI ca q_1128 360 (fun _ => 0)), (aI ca q_1129 45 (fun _ => 0)), (aJ ca q_1130 19 (fun _ => 0)), (aJ ca q_1131 19 (fun _ => 0)), (aJ ca q_1132 38 (fun _ => 0)), (aZ ca q_1133 2 (fun _ => 0)), (aI ca q_1135 10 (fun _ => 0)), (aZ ca q_1136 1024 (fun _ => 0)), (aI ca q_1137 64 (fun _ => 0)), (aI ca q_1138 80 (fun _ => 0)), (aI ca q_1139 4 (fun _ => 0)), (aI ca q_1140 240 (fun _ => 0)), (h0, .inr (11, [.int 0, .ref q_1124, .int 0, .int 0, .int 0, .int 0, .int 0, .int 0, .int 0, .int 0, .int 0, .int 0, .long 0, .int 0, .ref q_1125, .ref q_1126, .ref q_1127, .ref q_1128, .ref q_1129, .ref q_1130, .ref q_1131, .ref q_1132, .ref q_1133, .ref q_1134, .int 0, .int 0, .int 0, .int (-1), .int (-1), .int (-1), .ref q_1135, .int (-1), .int (-1), .ref q_1136, .int (-1), .int (-1), .ref q_1137, .int 0, .int 0, .ref q_1138, .ref q_1139, .int 0, .int 0, .ref q_1140, .int 0, .int 0, .int 0, .int 0])), (aI ca q_1126 89 u_1143), (aZ ca q_1134 2 u_1144)] := hD
  refine lv_iinc (v := 4) (lv' := [(1, .int 4), (0, .ref h0)]) hx hb dX12_init_202 hl (k := 0) rfl (by decide) (by decide) rfl (fun ls hl => ?_)
  refine lv_goto (tgt := 184) hx hb dX12_init_205 (by decide) ?_
  clear s_1169 s_1170 s_1171 s_1172 ex_1173 h_1174 eg_1175
  refine lv_iload_n hx hb dX12_init_184 rfl (lv_at hl 0 rfl) ?_
  refine lv_bipush (v := 89) hx hb dX12_init_185 (by decide) ?_
  refine lv_icmp_ge (tgt := 208) hx hb dX12_init_187 (by decide) (fun c => absurd c (by decide)) (fun _ => ?_)
  refine lv_aload_n hx hb dX12_init_190 rfl (lv_at hl 1 rfl) ?_
  refine va_get (D := D) (ci := 11) (v := .ref q_1125) (C := RX12) (T := TX12) (N := 48) hx hb hts k6 hown hK.1 hP 15 rfl rfl 14 (by decide) k7 (fun _ h9 => h9) rfl dX12_init_191 ?_
  refine lv_iload_n hx hb dX12_init_194 rfl (lv_at hl 0 rfl) ?_
  refine lv_aload_n hx hb dX12_init_195 rfl (lv_at hl 1 rfl) ?_
  refine va_get (D := D) (ci := 11) (v := .ref q_1126) (C := RX12) (T := TX12) (N := 48) hx hb hts k6 hown hK.1 hP 15 rfl rfl 15 (by decide) k8 (fun _ h9 => h9) rfl dX12_init_196 ?_
  refine lv_iload_n hx hb dX12_init_199 rfl (lv_at hl 0 rfl) ?_
  refine va_iald hx hb hK.1 hP 16 0 rfl rfl (rg_in (⟨by decide, by decide⟩ : rg 4 4 (4 : Int32)) (by decide) (by decide)) dX12_init_200 ?_
  refine lv_topi (fun x_1182 ex_1182 => ?_)
  have h_1183 : rg 1 1 x_1182 := by rw [ex_1182]; exact sg_at h_1151 (⟨by decide, by decide⟩ : rg 4 4 (4 : Int32)) (by decide) (by decide) (by decide)
  refine va_iast hx hb hK.1 hP hD hS 1 0 rfl rfl (rg_in (⟨by decide, by decide⟩ : rg 4 4 (4 : Int32)) (by decide) (by decide)) dX12_init_201 (fun H locs hP hD hS => ?_)
  obtain ⟨g_1184, eg_1184⟩ : ∃ y : Nat → Int32, y = upd g_1175 (4 : Int32).toNatClampNeg (x_1182 : Int32) := ⟨_, rfl⟩
  rw [← eg_1184] at hP hD
  have s_1186 : sg 5 376 0 0 g_1184 := sg_out (sg_w s_1177 (by decide) (by decide) (by decide) (by decide)) eg_1184 (⟨by decide, by decide⟩ : rg 4 4 (4 : Int32)) (by decide) (by decide)
  have s_1187 : sg 0 1 0 10 g_1184 := sg_out s_1178 eg_1184 (⟨by decide, by decide⟩ : rg 4 4 (4 : Int32)) (by decide) (by decide)
  have s_1188 : sg 1 2 0 4 g_1184 := sg_out s_1179 eg_1184 (⟨by decide, by decide⟩ : rg 4 4 (4 : Int32)) (by decide) (by decide)
  have s_1189 : sg 2 3 0 5 g_1184 := sg_out s_1180 eg_1184 (⟨by decide, by decide⟩ : rg 4 4 (4 : Int32)) (by decide) (by decide)
  have s_1190 : sg 3 4 3 3 g_1184 := sg_out s_1181 eg_1184 (⟨by decide, by decide⟩ : rg 4 4 (4 : Int32)) (by decide) (by decide)
  have s_1191 : sg 4 5 1 1 g_1184 := sg_one eg_1184 h_1183
  have hP : va_P D vwCl [(aI ca q_1124 940 (fun _ => 0)), (aI ca q_1125 376 g_1184), (aI ca q_1127 752 (fun _ => 0)), (aI ca q_1128 360 (fun _ => 0)), (aI ca q_1129 45 (fun _ => 0)), (aJ ca q_1130 19 (fun _ => 0)), (aJ ca q_1131 19 (fun _ => 0)), (aJ ca q_1132 38 (fun _ => 0)), (aZ ca q_1133 2 (fun _ => 0)), (aI ca q_1135 10 (fun _ => 0)), (aZ ca q_1136 1024 (fun _ => 0)), (aI ca q_1137 64 (fun _ => 0)), (aI ca q_1138 80 (fun _ => 0)), (aI ca q_1139 4 (fun _ => 0)), (aI ca q_1140 240 (fun _ => 0)), (h0, .inr (11, [.int 0, .ref q_1124, .int 0, .int 0, .int 0, .int 0, .int 0, .int 0, .int 0, .int 0, .int 0, .int 0, .long 0, .int 0, .ref q_1125, .ref q_1126, .ref q_1127, .ref q_1128, .ref q_1129, .ref q_1130, .ref q_1131, .ref q_1132, .ref q_1133, .ref q_1134, .int 0, .int 0, .int 0, .int (-1), .int (-1), .int (-1), .ref q_1135, .int (-1), .int (-1), .ref q_1136, .int (-1), .int (-1), .ref q_1137, .int 0, .int 0, .ref q_1138, .ref q_1139, .int 0, .int 0, .ref q_1140, .int 0, .int 0, .int 0, .int 0])), (aI ca q_1126 89 u_1143), (aZ ca q_1134 2 u_1144)] H := hP
  have hD : va_D A [(aI ca q_1124 940 (fun _ => 0)), (aI ca q_1125 376 g_1184), (aI ca q_1127 752 (fun _ => 0)), (aI ca q_1128 360 (fun _ => 0)), (aI ca q_1129 45 (fun _ => 0)), (aJ ca q_1130 19 (fun _ => 0)), (aJ ca q_1131 19 (fun _ => 0)), (aJ ca q_1132 38 (fun _ => 0)), (aZ ca q_1133 2 (fun _ => 0)), (aI ca q_1135 10 (fun _ => 0)), (aZ ca q_1136 1024 (fun _ => 0)), (aI ca q_1137 64 (fun _ => 0)), (aI ca q_1138 80 (fun _ => 0)), (aI ca q_1139 4 (fun _ => 0)), (aI ca q_1140 240 (fun _ => 0)), (h0, .inr (11, [.int 0, .ref q_1124, .int 0, .int 0, .int 0, .int 0, .int 0, .int 0, .int 0, .int 0, .int 0, .int 0, .long 0, .int 0, .ref q_1125, .ref q_1126, .ref q_1127, .ref q_1128, .ref q_1129, .ref q_1130, .ref q_1131, .ref q_1132, .ref q_1133, .ref q_1134, .int 0, .int 0, .int 0, .int (-1), .int (-1), .int (-1), .ref q_1135, .int (-1), .int (-1), .ref q_1136, .int (-1), .int (-1), .ref q_1137, .int 0, .int 0, .ref q_1138, .ref q_1139, .int 0, .int 0, .ref q_1140, .int 0, .int 0, .int 0, .int 0])), (aI ca q_1126 89 u_1143), (aZ ca q_1134 2 u_1144)] := hD
  refine lv_iinc (v := 5) (lv' := [(1, .int 5), (0, .ref h0)]) hx hb dX12_init_202 hl (k := 0) rfl (by decide) (by decide) rfl (fun ls hl => ?_)
  refine lv_goto (tgt := 184) hx hb dX12_init_205 (by decide) ?_
  clear s_1177 s_1178 s_1179 s_1180 s_1181 ex_1182 h_1183 eg_1184
  refine lv_iload_n hx hb dX12_init_184 rfl (lv_at hl 0 rfl) ?_
  refine lv_bipush (v := 89) hx hb dX12_init_185 (by decide) ?_
  refine lv_icmp_ge (tgt := 208) hx hb dX12_init_187 (by decide) (fun c => absurd c (by decide)) (fun _ => ?_)
  refine lv_aload_n hx hb dX12_init_190 rfl (lv_at hl 1 rfl) ?_
  refine va_get (D := D) (ci := 11) (v := .ref q_1125) (C := RX12) (T := TX12) (N := 48) hx hb hts k6 hown hK.1 hP 15 rfl rfl 14 (by decide) k7 (fun _ h9 => h9) rfl dX12_init_191 ?_
  refine lv_iload_n hx hb dX12_init_194 rfl (lv_at hl 0 rfl) ?_
  refine lv_aload_n hx hb dX12_init_195 rfl (lv_at hl 1 rfl) ?_
  refine va_get (D := D) (ci := 11) (v := .ref q_1126) (C := RX12) (T := TX12) (N := 48) hx hb hts k6 hown hK.1 hP 15 rfl rfl 15 (by decide) k8 (fun _ h9 => h9) rfl dX12_init_196 ?_
  refine lv_iload_n hx hb dX12_init_199 rfl (lv_at hl 0 rfl) ?_
  refine va_iald hx hb hK.1 hP 16 0 rfl rfl (rg_in (⟨by decide, by decide⟩ : rg 5 5 (5 : Int32)) (by decide) (by decide)) dX12_init_200 ?_
  refine lv_topi (fun x_1192 ex_1192 => ?_)
  refine va_iast hx hb hK.1 hP hD hS 1 0 rfl rfl (rg_in (⟨by decide, by decide⟩ : rg 5 5 (5 : Int32)) (by decide) (by decide)) dX12_init_201 (fun H locs hP hD hS => ?_)
  obtain ⟨g_1193, eg_1193⟩ : ∃ y : Nat → Int32, y = upd g_1184 (5 : Int32).toNatClampNeg (x_1192 : Int32) := ⟨_, rfl⟩
  rw [← eg_1193] at hP hD
  have s_1195 : sg 6 376 0 0 g_1193 := sg_out (sg_w s_1186 (by decide) (by decide) (by decide) (by decide)) eg_1193 (⟨by decide, by decide⟩ : rg 5 5 (5 : Int32)) (by decide) (by decide)
  have s_1196 : sg 0 1 0 10 g_1193 := sg_out s_1187 eg_1193 (⟨by decide, by decide⟩ : rg 5 5 (5 : Int32)) (by decide) (by decide)
  have s_1197 : sg 1 2 0 4 g_1193 := sg_out s_1188 eg_1193 (⟨by decide, by decide⟩ : rg 5 5 (5 : Int32)) (by decide) (by decide)
  have s_1198 : sg 2 3 0 5 g_1193 := sg_out s_1189 eg_1193 (⟨by decide, by decide⟩ : rg 5 5 (5 : Int32)) (by decide) (by decide)
  have s_1199 : sg 3 4 3 3 g_1193 := sg_out s_1190 eg_1193 (⟨by decide, by decide⟩ : rg 5 5 (5 : Int32)) (by decide) (by decide)
  have s_1200 : sg 4 5 1 1 g_1193 := sg_out s_1191 eg_1193 (⟨by decide, by decide⟩ : rg 5 5 (5 : Int32)) (by decide) (by decide)
  have hP : va_P D vwCl [(aI ca q_1124 940 (fun _ => 0)), (aI ca q_1125 376 g_1193), (aI ca q_1127 752 (fun _ => 0)), (aI ca q_1128 360 (fun _ => 0)), (aI ca q_1129 45 (fun _ => 0)), (aJ ca q_1130 19 (fun _ => 0)), (aJ ca q_1131 19 (fun _ => 0)), (aJ ca q_1132 38 (fun _ => 0)), (aZ ca q_1133 2 (fun _ => 0)), (aI ca q_1135 10 (fun _ => 0)), (aZ ca q_1136 1024 (fun _ => 0)), (aI ca q_1137 64 (fun _ => 0)), (aI ca q_1138 80 (fun _ => 0)), (aI ca q_1139 4 (fun _ => 0)), (aI ca q_1140 240 (fun _ => 0)), (h0, .inr (11, [.int 0, .ref q_1124, .int 0, .int 0, .int 0, .int 0, .int 0, .int 0, .int 0, .int 0, .int 0, .int 0, .long 0, .int 0, .ref q_1125, .ref q_1126, .ref q_1127, .ref q_1128, .ref q_1129, .ref q_1130, .ref q_1131, .ref q_1132, .ref q_1133, .ref q_1134, .int 0, .int 0, .int 0, .int (-1), .int (-1), .int (-1), .ref q_1135, .int (-1), .int (-1), .ref q_1136, .int (-1), .int (-1), .ref q_1137, .int 0, .int 0, .ref q_1138, .ref q_1139, .int 0, .int 0, .ref q_1140, .int 0, .int 0, .int 0, .int 0])), (aI ca q_1126 89 u_1143), (aZ ca q_1134 2 u_1144)] H := hP
  have hD : va_D A [(aI ca q_1124 940 (fun _ => 0)), (aI ca q_1125 376 g_1193), (aI ca q_1127 752 (fun _ => 0)), (aI ca q_1128 360 (fun _ => 0)), (aI ca q_1129 45 (fun _ => 0)), (aJ ca q_1130 19 (fun _ => 0)), (aJ ca q_1131 19 (fun _ => 0)), (aJ ca q_1132 38 (fun _ => 0)), (aZ ca q_1133 2 (fun _ => 0)), (aI ca q_1135 10 (fun _ => 0)), (aZ ca q_1136 1024 (fun _ => 0)), (aI ca q_1137 64 (fun _ => 0)), (aI ca q_1138 80 (fun _ => 0)), (aI ca q_1139 4 (fun _ => 0)), (aI ca q_1140 240 (fun _ => 0)), (h0, .inr (11, [.int 0, .ref q_1124, .int 0, .int 0, .int 0, .int 0, .int 0, .int 0, .int 0, .int 0, .int 0, .int 0, .long 0, .int 0, .ref q_1125, .ref q_1126, .ref q_1127, .ref q_1128, .ref q_1129, .ref q_1130, .ref q_1131, .ref q_1132, .ref q_1133, .ref q_1134, .int 0, .int 0, .int 0, .int (-1), .int (-1), .int (-1), .ref q_1135, .int (-1), .int (-1), .ref q_1136, .int (-1), .int (-1), .ref q_1137, .int 0, .int 0, .ref q_1138, .ref q_1139, .int 0, .int 0, .ref q_1140, .int 0, .int 0, .int 0, .int 0])), (aI ca q_1126 89 u_1143), (aZ ca q_1134 2 u_1144)] := hD
  refine lv_iinc (v := 6) (lv' := [(1, .int 6), (0, .ref h0)]) hx hb dX12_init_202 hl (k := 0) rfl (by decide) (by decide) rfl (fun ls hl => ?_)
  refine lv_goto (tgt := 184) hx hb dX12_init_205 (by decide) ?_
  clear s_1186 s_1187 s_1188 s_1189 s_1190 s_1191 ex_1192 eg_1193
  refine lv_iload_n hx hb dX12_init_184 rfl (lv_at hl 0 rfl) ?_
  refine lv_bipush (v := 89) hx hb dX12_init_185 (by decide) ?_
  refine lv_icmp_ge (tgt := 208) hx hb dX12_init_187 (by decide) (fun c => absurd c (by decide)) (fun _ => ?_)
  refine lv_aload_n hx hb dX12_init_190 rfl (lv_at hl 1 rfl) ?_
  refine va_get (D := D) (ci := 11) (v := .ref q_1125) (C := RX12) (T := TX12) (N := 48) hx hb hts k6 hown hK.1 hP 15 rfl rfl 14 (by decide) k7 (fun _ h9 => h9) rfl dX12_init_191 ?_
  refine lv_iload_n hx hb dX12_init_194 rfl (lv_at hl 0 rfl) ?_
  refine lv_aload_n hx hb dX12_init_195 rfl (lv_at hl 1 rfl) ?_
  refine va_get (D := D) (ci := 11) (v := .ref q_1126) (C := RX12) (T := TX12) (N := 48) hx hb hts k6 hown hK.1 hP 15 rfl rfl 15 (by decide) k8 (fun _ h9 => h9) rfl dX12_init_196 ?_
  refine lv_iload_n hx hb dX12_init_199 rfl (lv_at hl 0 rfl) ?_
  refine va_iald hx hb hK.1 hP 16 0 rfl rfl (rg_in (⟨by decide, by decide⟩ : rg 6 6 (6 : Int32)) (by decide) (by decide)) dX12_init_200 ?_
  refine lv_topi (fun x_1201 ex_1201 => ?_)
  refine va_iast hx hb hK.1 hP hD hS 1 0 rfl rfl (rg_in (⟨by decide, by decide⟩ : rg 6 6 (6 : Int32)) (by decide) (by decide)) dX12_init_201 (fun H locs hP hD hS => ?_)
  obtain ⟨g_1202, eg_1202⟩ : ∃ y : Nat → Int32, y = upd g_1193 (6 : Int32).toNatClampNeg (x_1201 : Int32) := ⟨_, rfl⟩
  rw [← eg_1202] at hP hD
  have s_1204 : sg 7 376 0 0 g_1202 := sg_out (sg_w s_1195 (by decide) (by decide) (by decide) (by decide)) eg_1202 (⟨by decide, by decide⟩ : rg 6 6 (6 : Int32)) (by decide) (by decide)
  have s_1205 : sg 0 1 0 10 g_1202 := sg_out s_1196 eg_1202 (⟨by decide, by decide⟩ : rg 6 6 (6 : Int32)) (by decide) (by decide)
  have s_1206 : sg 1 2 0 4 g_1202 := sg_out s_1197 eg_1202 (⟨by decide, by decide⟩ : rg 6 6 (6 : Int32)) (by decide) (by decide)
  have s_1207 : sg 2 3 0 5 g_1202 := sg_out s_1198 eg_1202 (⟨by decide, by decide⟩ : rg 6 6 (6 : Int32)) (by decide) (by decide)
  have s_1208 : sg 3 4 3 3 g_1202 := sg_out s_1199 eg_1202 (⟨by decide, by decide⟩ : rg 6 6 (6 : Int32)) (by decide) (by decide)
  have s_1209 : sg 4 5 1 1 g_1202 := sg_out s_1200 eg_1202 (⟨by decide, by decide⟩ : rg 6 6 (6 : Int32)) (by decide) (by decide)
  have hP : va_P D vwCl [(aI ca q_1124 940 (fun _ => 0)), (aI ca q_1125 376 g_1202), (aI ca q_1127 752 (fun _ => 0)), (aI ca q_1128 360 (fun _ => 0)), (aI ca q_1129 45 (fun _ => 0)), (aJ ca q_1130 19 (fun _ => 0)), (aJ ca q_1131 19 (fun _ => 0)), (aJ ca q_1132 38 (fun _ => 0)), (aZ ca q_1133 2 (fun _ => 0)), (aI ca q_1135 10 (fun _ => 0)), (aZ ca q_1136 1024 (fun _ => 0)), (aI ca q_1137 64 (fun _ => 0)), (aI ca q_1138 80 (fun _ => 0)), (aI ca q_1139 4 (fun _ => 0)), (aI ca q_1140 240 (fun _ => 0)), (h0, .inr (11, [.int 0, .ref q_1124, .int 0, .int 0, .int 0, .int 0, .int 0, .int 0, .int 0, .int 0, .int 0, .int 0, .long 0, .int 0, .ref q_1125, .ref q_1126, .ref q_1127, .ref q_1128, .ref q_1129, .ref q_1130, .ref q_1131, .ref q_1132, .ref q_1133, .ref q_1134, .int 0, .int 0, .int 0, .int (-1), .int (-1), .int (-1), .ref q_1135, .int (-1), .int (-1), .ref q_1136, .int (-1), .int (-1), .ref q_1137, .int 0, .int 0, .ref q_1138, .ref q_1139, .int 0, .int 0, .ref q_1140, .int 0, .int 0, .int 0, .int 0])), (aI ca q_1126 89 u_1143), (aZ ca q_1134 2 u_1144)] H := hP
  have hD : va_D A [(aI ca q_1124 940 (fun _ => 0)), (aI ca q_1125 376 g_1202), (aI ca q_1127 752 (fun _ => 0)), (aI ca q_1128 360 (fun _ => 0)), (aI ca q_1129 45 (fun _ => 0)), (aJ ca q_1130 19 (fun _ => 0)), (aJ ca q_1131 19 (fun _ => 0)), (aJ ca q_1132 38 (fun _ => 0)), (aZ ca q_1133 2 (fun _ => 0)), (aI ca q_1135 10 (fun _ => 0)), (aZ ca q_1136 1024 (fun _ => 0)), (aI ca q_1137 64 (fun _ => 0)), (aI ca q_1138 80 (fun _ => 0)), (aI ca q_1139 4 (fun _ => 0)), (aI ca q_1140 240 (fun _ => 0)), (h0, .inr (11, [.int 0, .ref q_1124, .int 0, .int 0, .int 0, .int 0, .int 0, .int 0, .int 0, .int 0, .int 0, .int 0, .long 0, .int 0, .ref q_1125, .ref q_1126, .ref q_1127, .ref q_1128, .ref q_1129, .ref q_1130, .ref q_1131, .ref q_1132, .ref q_1133, .ref q_1134, .int 0, .int 0, .int 0, .int (-1), .int (-1), .int (-1), .ref q_1135, .int (-1), .int (-1), .ref q_1136, .int (-1), .int (-1), .ref q_1137, .int 0, .int 0, .ref q_1138, .ref q_1139, .int 0, .int 0, .ref q_1140, .int 0, .int 0, .int 0, .int 0])), (aI ca q_1126 89 u_1143), (aZ ca q_1134 2 u_1144)] := hD
  refine lv_iinc (v := 7) (lv' := [(1, .int 7), (0, .ref h0)]) hx hb dX12_init_202 hl (k := 0) rfl (by decide) (by decide) rfl (fun ls hl => ?_)
  refine lv_goto (tgt := 184) hx hb dX12_init_205 (by decide) ?_
  clear s_1195 s_1196 s_1197 s_1198 s_1199 s_1200 ex_1201 eg_1202
  refine lv_iload_n hx hb dX12_init_184 rfl (lv_at hl 0 rfl) ?_
  refine lv_bipush (v := 89) hx hb dX12_init_185 (by decide) ?_
  refine lv_icmp_ge (tgt := 208) hx hb dX12_init_187 (by decide) (fun c => absurd c (by decide)) (fun _ => ?_)
  refine lv_aload_n hx hb dX12_init_190 rfl (lv_at hl 1 rfl) ?_
  refine va_get (D := D) (ci := 11) (v := .ref q_1125) (C := RX12) (T := TX12) (N := 48) hx hb hts k6 hown hK.1 hP 15 rfl rfl 14 (by decide) k7 (fun _ h9 => h9) rfl dX12_init_191 ?_
  refine lv_iload_n hx hb dX12_init_194 rfl (lv_at hl 0 rfl) ?_
  refine lv_aload_n hx hb dX12_init_195 rfl (lv_at hl 1 rfl) ?_
  refine va_get (D := D) (ci := 11) (v := .ref q_1126) (C := RX12) (T := TX12) (N := 48) hx hb hts k6 hown hK.1 hP 15 rfl rfl 15 (by decide) k8 (fun _ h9 => h9) rfl dX12_init_196 ?_
  refine lv_iload_n hx hb dX12_init_199 rfl (lv_at hl 0 rfl) ?_
  refine va_iald hx hb hK.1 hP 16 0 rfl rfl (rg_in (⟨by decide, by decide⟩ : rg 7 7 (7 : Int32)) (by decide) (by decide)) dX12_init_200 ?_
  refine lv_topi (fun x_1210 ex_1210 => ?_)
  refine va_iast hx hb hK.1 hP hD hS 1 0 rfl rfl (rg_in (⟨by decide, by decide⟩ : rg 7 7 (7 : Int32)) (by decide) (by decide)) dX12_init_201 (fun H locs hP hD hS => ?_)
  obtain ⟨g_1211, eg_1211⟩ : ∃ y : Nat → Int32, y = upd g_1202 (7 : Int32).toNatClampNeg (x_1210 : Int32) := ⟨_, rfl⟩
  rw [← eg_1211] at hP hD
  have s_1213 : sg 8 376 0 0 g_1211 := sg_out (sg_w s_1204 (by decide) (by decide) (by decide) (by decide)) eg_1211 (⟨by decide, by decide⟩ : rg 7 7 (7 : Int32)) (by decide) (by decide)
  have s_1214 : sg 0 1 0 10 g_1211 := sg_out s_1205 eg_1211 (⟨by decide, by decide⟩ : rg 7 7 (7 : Int32)) (by decide) (by decide)
  have s_1215 : sg 1 2 0 4 g_1211 := sg_out s_1206 eg_1211 (⟨by decide, by decide⟩ : rg 7 7 (7 : Int32)) (by decide) (by decide)
  have s_1216 : sg 2 3 0 5 g_1211 := sg_out s_1207 eg_1211 (⟨by decide, by decide⟩ : rg 7 7 (7 : Int32)) (by decide) (by decide)
  have s_1217 : sg 3 4 3 3 g_1211 := sg_out s_1208 eg_1211 (⟨by decide, by decide⟩ : rg 7 7 (7 : Int32)) (by decide) (by decide)
  have s_1218 : sg 4 5 1 1 g_1211 := sg_out s_1209 eg_1211 (⟨by decide, by decide⟩ : rg 7 7 (7 : Int32)) (by decide) (by decide)
  have hP : va_P D vwCl [(aI ca q_1124 940 (fun _ => 0)), (aI ca q_1125 376 g_1211), (aI ca q_1127 752 (fun _ => 0)), (aI ca q_1128 360 (fun _ => 0)), (aI ca q_1129 45 (fun _ => 0)), (aJ ca q_1130 19 (fun _ => 0)), (aJ ca q_1131 19 (fun _ => 0)), (aJ ca q_1132 38 (fun _ => 0)), (aZ ca q_1133 2 (fun _ => 0)), (aI ca q_1135 10 (fun _ => 0)), (aZ ca q_1136 1024 (fun _ => 0)), (aI ca q_1137 64 (fun _ => 0)), (aI ca q_1138 80 (fun _ => 0)), (aI ca q_1139 4 (fun _ => 0)), (aI ca q_1140 240 (fun _ => 0)), (h0, .inr (11, [.int 0, .ref q_1124, .int 0, .int 0, .int 0, .int 0, .int 0, .int 0, .int 0, .int 0, .int 0, .int 0, .long 0, .int 0, .ref q_1125, .ref q_1126, .ref q_1127, .ref q_1128, .ref q_1129, .ref q_1130, .ref q_1131, .ref q_1132, .ref q_1133, .ref q_1134, .int 0, .int 0, .int 0, .int (-1), .int (-1), .int (-1), .ref q_1135, .int (-1), .int (-1), .ref q_1136, .int (-1), .int (-1), .ref q_1137, .int 0, .int 0, .ref q_1138, .ref q_1139, .int 0, .int 0, .ref q_1140, .int 0, .int 0, .int 0, .int 0])), (aI ca q_1126 89 u_1143), (aZ ca q_1134 2 u_1144)] H := hP
  have hD : va_D A [(aI ca q_1124 940 (fun _ => 0)), (aI ca q_1125 376 g_1211), (aI ca q_1127 752 (fun _ => 0)), (aI ca q_1128 360 (fun _ => 0)), (aI ca q_1129 45 (fun _ => 0)), (aJ ca q_1130 19 (fun _ => 0)), (aJ ca q_1131 19 (fun _ => 0)), (aJ ca q_1132 38 (fun _ => 0)), (aZ ca q_1133 2 (fun _ => 0)), (aI ca q_1135 10 (fun _ => 0)), (aZ ca q_1136 1024 (fun _ => 0)), (aI ca q_1137 64 (fun _ => 0)), (aI ca q_1138 80 (fun _ => 0)), (aI ca q_1139 4 (fun _ => 0)), (aI ca q_1140 240 (fun _ => 0)), (h0, .inr (11, [.int 0, .ref q_1124, .int 0, .int 0, .int 0, .int 0, .int 0, .int 0, .int 0, .int 0, .int 0, .int 0, .long 0, .int 0, .ref q_1125, .ref q_1126, .ref q_1127, .ref q_1128, .ref q_1129, .ref q_1130, .ref q_1131, .ref q_1132, .ref q_1133, .ref q_1134, .int 0, .int 0, .int 0, .int (-1), .int (-1), .int (-1), .ref q_1135, .int (-1), .int (-1), .ref q_1136, .int (-1), .int (-1), .ref q_1137, .int 0, .int 0, .ref q_1138, .ref q_1139, .int 0, .int 0, .ref q_1140, .int 0, .int 0, .int 0, .int 0])), (aI ca q_1126 89 u_1143), (aZ ca q_1134 2 u_1144)] := hD
  refine lv_iinc (v := 8) (lv' := [(1, .int 8), (0, .ref h0)]) hx hb dX12_init_202 hl (k := 0) rfl (by decide) (by decide) rfl (fun ls hl => ?_)
  refine lv_goto (tgt := 184) hx hb dX12_init_205 (by decide) ?_
  clear s_1204 s_1205 s_1206 s_1207 s_1208 s_1209 ex_1210 eg_1211
  refine lv_iload_n hx hb dX12_init_184 rfl (lv_at hl 0 rfl) ?_
  refine lv_bipush (v := 89) hx hb dX12_init_185 (by decide) ?_
  refine lv_icmp_ge (tgt := 208) hx hb dX12_init_187 (by decide) (fun c => absurd c (by decide)) (fun _ => ?_)
  refine lv_aload_n hx hb dX12_init_190 rfl (lv_at hl 1 rfl) ?_
  refine va_get (D := D) (ci := 11) (v := .ref q_1125) (C := RX12) (T := TX12) (N := 48) hx hb hts k6 hown hK.1 hP 15 rfl rfl 14 (by decide) k7 (fun _ h9 => h9) rfl dX12_init_191 ?_
  refine lv_iload_n hx hb dX12_init_194 rfl (lv_at hl 0 rfl) ?_
  refine lv_aload_n hx hb dX12_init_195 rfl (lv_at hl 1 rfl) ?_
  refine va_get (D := D) (ci := 11) (v := .ref q_1126) (C := RX12) (T := TX12) (N := 48) hx hb hts k6 hown hK.1 hP 15 rfl rfl 15 (by decide) k8 (fun _ h9 => h9) rfl dX12_init_196 ?_
  refine lv_iload_n hx hb dX12_init_199 rfl (lv_at hl 0 rfl) ?_
  refine va_iald hx hb hK.1 hP 16 0 rfl rfl (rg_in (⟨by decide, by decide⟩ : rg 8 8 (8 : Int32)) (by decide) (by decide)) dX12_init_200 ?_
  refine lv_topi (fun x_1219 ex_1219 => ?_)
  refine va_iast hx hb hK.1 hP hD hS 1 0 rfl rfl (rg_in (⟨by decide, by decide⟩ : rg 8 8 (8 : Int32)) (by decide) (by decide)) dX12_init_201 (fun H locs hP hD hS => ?_)
  obtain ⟨g_1220, eg_1220⟩ : ∃ y : Nat → Int32, y = upd g_1211 (8 : Int32).toNatClampNeg (x_1219 : Int32) := ⟨_, rfl⟩
  rw [← eg_1220] at hP hD
  have s_1222 : sg 9 376 0 0 g_1220 := sg_out (sg_w s_1213 (by decide) (by decide) (by decide) (by decide)) eg_1220 (⟨by decide, by decide⟩ : rg 8 8 (8 : Int32)) (by decide) (by decide)
  have s_1223 : sg 0 1 0 10 g_1220 := sg_out s_1214 eg_1220 (⟨by decide, by decide⟩ : rg 8 8 (8 : Int32)) (by decide) (by decide)
  have s_1224 : sg 1 2 0 4 g_1220 := sg_out s_1215 eg_1220 (⟨by decide, by decide⟩ : rg 8 8 (8 : Int32)) (by decide) (by decide)
  have s_1225 : sg 2 3 0 5 g_1220 := sg_out s_1216 eg_1220 (⟨by decide, by decide⟩ : rg 8 8 (8 : Int32)) (by decide) (by decide)
  have s_1226 : sg 3 4 3 3 g_1220 := sg_out s_1217 eg_1220 (⟨by decide, by decide⟩ : rg 8 8 (8 : Int32)) (by decide) (by decide)
  have s_1227 : sg 4 5 1 1 g_1220 := sg_out s_1218 eg_1220 (⟨by decide, by decide⟩ : rg 8 8 (8 : Int32)) (by decide) (by decide)
  have hP : va_P D vwCl [(aI ca q_1124 940 (fun _ => 0)), (aI ca q_1125 376 g_1220), (aI ca q_1127 752 (fun _ => 0)), (aI ca q_1128 360 (fun _ => 0)), (aI ca q_1129 45 (fun _ => 0)), (aJ ca q_1130 19 (fun _ => 0)), (aJ ca q_1131 19 (fun _ => 0)), (aJ ca q_1132 38 (fun _ => 0)), (aZ ca q_1133 2 (fun _ => 0)), (aI ca q_1135 10 (fun _ => 0)), (aZ ca q_1136 1024 (fun _ => 0)), (aI ca q_1137 64 (fun _ => 0)), (aI ca q_1138 80 (fun _ => 0)), (aI ca q_1139 4 (fun _ => 0)), (aI ca q_1140 240 (fun _ => 0)), (h0, .inr (11, [.int 0, .ref q_1124, .int 0, .int 0, .int 0, .int 0, .int 0, .int 0, .int 0, .int 0, .int 0, .int 0, .long 0, .int 0, .ref q_1125, .ref q_1126, .ref q_1127, .ref q_1128, .ref q_1129, .ref q_1130, .ref q_1131, .ref q_1132, .ref q_1133, .ref q_1134, .int 0, .int 0, .int 0, .int (-1), .int (-1), .int (-1), .ref q_1135, .int (-1), .int (-1), .ref q_1136, .int (-1), .int (-1), .ref q_1137, .int 0, .int 0, .ref q_1138, .ref q_1139, .int 0, .int 0, .ref q_1140, .int 0, .int 0, .int 0, .int 0])), (aI ca q_1126 89 u_1143), (aZ ca q_1134 2 u_1144)] H := hP
  have hD : va_D A [(aI ca q_1124 940 (fun _ => 0)), (aI ca q_1125 376 g_1220), (aI ca q_1127 752 (fun _ => 0)), (aI ca q_1128 360 (fun _ => 0)), (aI ca q_1129 45 (fun _ => 0)), (aJ ca q_1130 19 (fun _ => 0)), (aJ ca q_1131 19 (fun _ => 0)), (aJ ca q_1132 38 (fun _ => 0)), (aZ ca q_1133 2 (fun _ => 0)), (aI ca q_1135 10 (fun _ => 0)), (aZ ca q_1136 1024 (fun _ => 0)), (aI ca q_1137 64 (fun _ => 0)), (aI ca q_1138 80 (fun _ => 0)), (aI ca q_1139 4 (fun _ => 0)), (aI ca q_1140 240 (fun _ => 0)), (h0, .inr (11, [.int 0, .ref q_1124, .int 0, .int 0, .int 0, .int 0, .int 0, .int 0, .int 0, .int 0, .int 0, .int 0, .long 0, .int 0, .ref q_1125, .ref q_1126, .ref q_1127, .ref q_1128, .ref q_1129, .ref q_1130, .ref q_1131, .ref q_1132, .ref q_1133, .ref q_1134, .int 0, .int 0, .int 0, .int (-1), .int (-1), .int (-1), .ref q_1135, .int (-1), .int (-1), .ref q_1136, .int (-1), .int (-1), .ref q_1137, .int 0, .int 0, .ref q_1138, .ref q_1139, .int 0, .int 0, .ref q_1140, .int 0, .int 0, .int 0, .int 0])), (aI ca q_1126 89 u_1143), (aZ ca q_1134 2 u_1144)] := hD
  refine lv_iinc (v := 9) (lv' := [(1, .int 9), (0, .ref h0)]) hx hb dX12_init_202 hl (k := 0) rfl (by decide) (by decide) rfl (fun ls hl => ?_)
  refine lv_goto (tgt := 184) hx hb dX12_init_205 (by decide) ?_
  clear s_1213 s_1214 s_1215 s_1216 s_1217 s_1218 ex_1219 eg_1220
  refine lv_iload_n hx hb dX12_init_184 rfl (lv_at hl 0 rfl) ?_
  refine lv_bipush (v := 89) hx hb dX12_init_185 (by decide) ?_
  refine lv_icmp_ge (tgt := 208) hx hb dX12_init_187 (by decide) (fun c => absurd c (by decide)) (fun _ => ?_)
  refine lv_aload_n hx hb dX12_init_190 rfl (lv_at hl 1 rfl) ?_
  refine va_get (D := D) (ci := 11) (v := .ref q_1125) (C := RX12) (T := TX12) (N := 48) hx hb hts k6 hown hK.1 hP 15 rfl rfl 14 (by decide) k7 (fun _ h9 => h9) rfl dX12_init_191 ?_
  refine lv_iload_n hx hb dX12_init_194 rfl (lv_at hl 0 rfl) ?_
  refine lv_aload_n hx hb dX12_init_195 rfl (lv_at hl 1 rfl) ?_
  refine va_get (D := D) (ci := 11) (v := .ref q_1126) (C := RX12) (T := TX12) (N := 48) hx hb hts k6 hown hK.1 hP 15 rfl rfl 15 (by decide) k8 (fun _ h9 => h9) rfl dX12_init_196 ?_
  refine lv_iload_n hx hb dX12_init_199 rfl (lv_at hl 0 rfl) ?_
  refine va_iald hx hb hK.1 hP 16 0 rfl rfl (rg_in (⟨by decide, by decide⟩ : rg 9 9 (9 : Int32)) (by decide) (by decide)) dX12_init_200 ?_
  refine lv_topi (fun x_1228 ex_1228 => ?_)
  refine va_iast hx hb hK.1 hP hD hS 1 0 rfl rfl (rg_in (⟨by decide, by decide⟩ : rg 9 9 (9 : Int32)) (by decide) (by decide)) dX12_init_201 (fun H locs hP hD hS => ?_)
  obtain ⟨g_1229, eg_1229⟩ : ∃ y : Nat → Int32, y = upd g_1220 (9 : Int32).toNatClampNeg (x_1228 : Int32) := ⟨_, rfl⟩
  rw [← eg_1229] at hP hD
  have s_1231 : sg 10 376 0 0 g_1229 := sg_out (sg_w s_1222 (by decide) (by decide) (by decide) (by decide)) eg_1229 (⟨by decide, by decide⟩ : rg 9 9 (9 : Int32)) (by decide) (by decide)
  have s_1232 : sg 0 1 0 10 g_1229 := sg_out s_1223 eg_1229 (⟨by decide, by decide⟩ : rg 9 9 (9 : Int32)) (by decide) (by decide)
  have s_1233 : sg 1 2 0 4 g_1229 := sg_out s_1224 eg_1229 (⟨by decide, by decide⟩ : rg 9 9 (9 : Int32)) (by decide) (by decide)
  have s_1234 : sg 2 3 0 5 g_1229 := sg_out s_1225 eg_1229 (⟨by decide, by decide⟩ : rg 9 9 (9 : Int32)) (by decide) (by decide)
  have s_1235 : sg 3 4 3 3 g_1229 := sg_out s_1226 eg_1229 (⟨by decide, by decide⟩ : rg 9 9 (9 : Int32)) (by decide) (by decide)
  have s_1236 : sg 4 5 1 1 g_1229 := sg_out s_1227 eg_1229 (⟨by decide, by decide⟩ : rg 9 9 (9 : Int32)) (by decide) (by decide)
  have hP : va_P D vwCl [(aI ca q_1124 940 (fun _ => 0)), (aI ca q_1125 376 g_1229), (aI ca q_1127 752 (fun _ => 0)), (aI ca q_1128 360 (fun _ => 0)), (aI ca q_1129 45 (fun _ => 0)), (aJ ca q_1130 19 (fun _ => 0)), (aJ ca q_1131 19 (fun _ => 0)), (aJ ca q_1132 38 (fun _ => 0)), (aZ ca q_1133 2 (fun _ => 0)), (aI ca q_1135 10 (fun _ => 0)), (aZ ca q_1136 1024 (fun _ => 0)), (aI ca q_1137 64 (fun _ => 0)), (aI ca q_1138 80 (fun _ => 0)), (aI ca q_1139 4 (fun _ => 0)), (aI ca q_1140 240 (fun _ => 0)), (h0, .inr (11, [.int 0, .ref q_1124, .int 0, .int 0, .int 0, .int 0, .int 0, .int 0, .int 0, .int 0, .int 0, .int 0, .long 0, .int 0, .ref q_1125, .ref q_1126, .ref q_1127, .ref q_1128, .ref q_1129, .ref q_1130, .ref q_1131, .ref q_1132, .ref q_1133, .ref q_1134, .int 0, .int 0, .int 0, .int (-1), .int (-1), .int (-1), .ref q_1135, .int (-1), .int (-1), .ref q_1136, .int (-1), .int (-1), .ref q_1137, .int 0, .int 0, .ref q_1138, .ref q_1139, .int 0, .int 0, .ref q_1140, .int 0, .int 0, .int 0, .int 0])), (aI ca q_1126 89 u_1143), (aZ ca q_1134 2 u_1144)] H := hP
  have hD : va_D A [(aI ca q_1124 940 (fun _ => 0)), (aI ca q_1125 376 g_1229), (aI ca q_1127 752 (fun _ => 0)), (aI ca q_1128 360 (fun _ => 0)), (aI ca q_1129 45 (fun _ => 0)), (aJ ca q_1130 19 (fun _ => 0)), (aJ ca q_1131 19 (fun _ => 0)), (aJ ca q_1132 38 (fun _ => 0)), (aZ ca q_1133 2 (fun _ => 0)), (aI ca q_1135 10 (fun _ => 0)), (aZ ca q_1136 1024 (fun _ => 0)), (aI ca q_1137 64 (fun _ => 0)), (aI ca q_1138 80 (fun _ => 0)), (aI ca q_1139 4 (fun _ => 0)), (aI ca q_1140 240 (fun _ => 0)), (h0, .inr (11, [.int 0, .ref q_1124, .int 0, .int 0, .int 0, .int 0, .int 0, .int 0, .int 0, .int 0, .int 0, .int 0, .long 0, .int 0, .ref q_1125, .ref q_1126, .ref q_1127, .ref q_1128, .ref q_1129, .ref q_1130, .ref q_1131, .ref q_1132, .ref q_1133, .ref q_1134, .int 0, .int 0, .int 0, .int (-1), .int (-1), .int (-1), .ref q_1135, .int (-1), .int (-1), .ref q_1136, .int (-1), .int (-1), .ref q_1137, .int 0, .int 0, .ref q_1138, .ref q_1139, .int 0, .int 0, .ref q_1140, .int 0, .int 0, .int 0, .int 0])), (aI ca q_1126 89 u_1143), (aZ ca q_1134 2 u_1144)] := hD
  refine lv_iinc (v := 10) (lv' := [(1, .int 10), (0, .ref h0)]) hx hb dX12_init_202 hl (k := 0) rfl (by decide) (by decide) rfl (fun ls hl => ?_)
  refine lv_goto (tgt := 184) hx hb dX12_init_205 (by decide) ?_
  clear s_1222 s_1223 s_1224 s_1225 s_1226 s_1227 ex_1228 eg_1229
  refine lv_iload_n hx hb dX12_init_184 rfl (lv_at hl 0 rfl) ?_
  refine lv_bipush (v := 89) hx hb dX12_init_185 (by decide) ?_
  refine lv_icmp_ge (tgt := 208) hx hb dX12_init_187 (by decide) (fun c => absurd c (by decide)) (fun _ => ?_)
  refine lv_aload_n hx hb dX12_init_190 rfl (lv_at hl 1 rfl) ?_
  refine va_get (D := D) (ci := 11) (v := .ref q_1125) (C := RX12) (T := TX12) (N := 48) hx hb hts k6 hown hK.1 hP 15 rfl rfl 14 (by decide) k7 (fun _ h9 => h9) rfl dX12_init_191 ?_
  refine lv_iload_n hx hb dX12_init_194 rfl (lv_at hl 0 rfl) ?_
  refine lv_aload_n hx hb dX12_init_195 rfl (lv_at hl 1 rfl) ?_
  refine va_get (D := D) (ci := 11) (v := .ref q_1126) (C := RX12) (T := TX12) (N := 48) hx hb hts k6 hown hK.1 hP 15 rfl rfl 15 (by decide) k8 (fun _ h9 => h9) rfl dX12_init_196 ?_
  refine lv_iload_n hx hb dX12_init_199 rfl (lv_at hl 0 rfl) ?_
  refine va_iald hx hb hK.1 hP 16 0 rfl rfl (rg_in (⟨by decide, by decide⟩ : rg 10 10 (10 : Int32)) (by decide) (by decide)) dX12_init_200 ?_
  refine lv_topi (fun x_1237 ex_1237 => ?_)
  refine va_iast hx hb hK.1 hP hD hS 1 0 rfl rfl (rg_in (⟨by decide, by decide⟩ : rg 10 10 (10 : Int32)) (by decide) (by decide)) dX12_init_201 (fun H locs hP hD hS => ?_)
  obtain ⟨g_1238, eg_1238⟩ : ∃ y : Nat → Int32, y = upd g_1229 (10 : Int32).toNatClampNeg (x_1237 : Int32) := ⟨_, rfl⟩
  rw [← eg_1238] at hP hD
  have s_1240 : sg 11 376 0 0 g_1238 := sg_out (sg_w s_1231 (by decide) (by decide) (by decide) (by decide)) eg_1238 (⟨by decide, by decide⟩ : rg 10 10 (10 : Int32)) (by decide) (by decide)
  have s_1241 : sg 0 1 0 10 g_1238 := sg_out s_1232 eg_1238 (⟨by decide, by decide⟩ : rg 10 10 (10 : Int32)) (by decide) (by decide)
  have s_1242 : sg 1 2 0 4 g_1238 := sg_out s_1233 eg_1238 (⟨by decide, by decide⟩ : rg 10 10 (10 : Int32)) (by decide) (by decide)
  have s_1243 : sg 2 3 0 5 g_1238 := sg_out s_1234 eg_1238 (⟨by decide, by decide⟩ : rg 10 10 (10 : Int32)) (by decide) (by decide)
  have s_1244 : sg 3 4 3 3 g_1238 := sg_out s_1235 eg_1238 (⟨by decide, by decide⟩ : rg 10 10 (10 : Int32)) (by decide) (by decide)
  have s_1245 : sg 4 5 1 1 g_1238 := sg_out s_1236 eg_1238 (⟨by decide, by decide⟩ : rg 10 10 (10 : Int32)) (by decide) (by decide)
  have hP : va_P D vwCl [(aI ca q_1124 940 (fun _ => 0)), (aI ca q_1125 376 g_1238), (aI ca q_1127 752 (fun _ => 0)), (aI ca q_1128 360 (fun _ => 0)), (aI ca q_1129 45 (fun _ => 0)), (aJ ca q_1130 19 (fun _ => 0)), (aJ ca q_1131 19 (fun _ => 0)), (aJ ca q_1132 38 (fun _ => 0)), (aZ ca q_1133 2 (fun _ => 0)), (aI ca q_1135 10 (fun _ => 0)), (aZ ca q_1136 1024 (fun _ => 0)), (aI ca q_1137 64 (fun _ => 0)), (aI ca q_1138 80 (fun _ => 0)), (aI ca q_1139 4 (fun _ => 0)), (aI ca q_1140 240 (fun _ => 0)), (h0, .inr (11, [.int 0, .ref q_1124, .int 0, .int 0, .int 0, .int 0, .int 0, .int 0, .int 0, .int 0, .int 0, .int 0, .long 0, .int 0, .ref q_1125, .ref q_1126, .ref q_1127, .ref q_1128, .ref q_1129, .ref q_1130, .ref q_1131, .ref q_1132, .ref q_1133, .ref q_1134, .int 0, .int 0, .int 0, .int (-1), .int (-1), .int (-1), .ref q_1135, .int (-1), .int (-1), .ref q_1136, .int (-1), .int (-1), .ref q_1137, .int 0, .int 0, .ref q_1138, .ref q_1139, .int 0, .int 0, .ref q_1140, .int 0, .int 0, .int 0, .int 0])), (aI ca q_1126 89 u_1143), (aZ ca q_1134 2 u_1144)] H := hP
  have hD : va_D A [(aI ca q_1124 940 (fun _ => 0)), (aI ca q_1125 376 g_1238), (aI ca q_1127 752 (fun _ => 0)), (aI ca q_1128 360 (fun _ => 0)), (aI ca q_1129 45 (fun _ => 0)), (aJ ca q_1130 19 (fun _ => 0)), (aJ ca q_1131 19 (fun _ => 0)), (aJ ca q_1132 38 (fun _ => 0)), (aZ ca q_1133 2 (fun _ => 0)), (aI ca q_1135 10 (fun _ => 0)), (aZ ca q_1136 1024 (fun _ => 0)), (aI ca q_1137 64 (fun _ => 0)), (aI ca q_1138 80 (fun _ => 0)), (aI ca q_1139 4 (fun _ => 0)), (aI ca q_1140 240 (fun _ => 0)), (h0, .inr (11, [.int 0, .ref q_1124, .int 0, .int 0, .int 0, .int 0, .int 0, .int 0, .int 0, .int 0, .int 0, .int 0, .long 0, .int 0, .ref q_1125, .ref q_1126, .ref q_1127, .ref q_1128, .ref q_1129, .ref q_1130, .ref q_1131, .ref q_1132, .ref q_1133, .ref q_1134, .int 0, .int 0, .int 0, .int (-1), .int (-1), .int (-1), .ref q_1135, .int (-1), .int (-1), .ref q_1136, .int (-1), .int (-1), .ref q_1137, .int 0, .int 0, .ref q_1138, .ref q_1139, .int 0, .int 0, .ref q_1140, .int 0, .int 0, .int 0, .int 0])), (aI ca q_1126 89 u_1143), (aZ ca q_1134 2 u_1144)] := hD
  refine lv_iinc (v := 11) (lv' := [(1, .int 11), (0, .ref h0)]) hx hb dX12_init_202 hl (k := 0) rfl (by decide) (by decide) rfl (fun ls hl => ?_)
  refine lv_goto (tgt := 184) hx hb dX12_init_205 (by decide) ?_
  clear s_1231 s_1232 s_1233 s_1234 s_1235 s_1236 ex_1237 eg_1238
  refine lv_iload_n hx hb dX12_init_184 rfl (lv_at hl 0 rfl) ?_
  refine lv_bipush (v := 89) hx hb dX12_init_185 (by decide) ?_
  refine lv_icmp_ge (tgt := 208) hx hb dX12_init_187 (by decide) (fun c => absurd c (by decide)) (fun _ => ?_)
  refine lv_aload_n hx hb dX12_init_190 rfl (lv_at hl 1 rfl) ?_
  refine va_get (D := D) (ci := 11) (v := .ref q_1125) (C := RX12) (T := TX12) (N := 48) hx hb hts k6 hown hK.1 hP 15 rfl rfl 14 (by decide) k7 (fun _ h9 => h9) rfl dX12_init_191 ?_
  refine lv_iload_n hx hb dX12_init_194 rfl (lv_at hl 0 rfl) ?_
  refine lv_aload_n hx hb dX12_init_195 rfl (lv_at hl 1 rfl) ?_
  refine va_get (D := D) (ci := 11) (v := .ref q_1126) (C := RX12) (T := TX12) (N := 48) hx hb hts k6 hown hK.1 hP 15 rfl rfl 15 (by decide) k8 (fun _ h9 => h9) rfl dX12_init_196 ?_
  refine lv_iload_n hx hb dX12_init_199 rfl (lv_at hl 0 rfl) ?_
  refine va_iald hx hb hK.1 hP 16 0 rfl rfl (rg_in (⟨by decide, by decide⟩ : rg 11 11 (11 : Int32)) (by decide) (by decide)) dX12_init_200 ?_
  refine lv_topi (fun x_1246 ex_1246 => ?_)
  refine va_iast hx hb hK.1 hP hD hS 1 0 rfl rfl (rg_in (⟨by decide, by decide⟩ : rg 11 11 (11 : Int32)) (by decide) (by decide)) dX12_init_201 (fun H locs hP hD hS => ?_)
  obtain ⟨g_1247, eg_1247⟩ : ∃ y : Nat → Int32, y = upd g_1238 (11 : Int32).toNatClampNeg (x_1246 : Int32) := ⟨_, rfl⟩
  rw [← eg_1247] at hP hD
  have s_1249 : sg 12 376 0 0 g_1247 := sg_out (sg_w s_1240 (by decide) (by decide) (by decide) (by decide)) eg_1247 (⟨by decide, by decide⟩ : rg 11 11 (11 : Int32)) (by decide) (by decide)
  have s_1250 : sg 0 1 0 10 g_1247 := sg_out s_1241 eg_1247 (⟨by decide, by decide⟩ : rg 11 11 (11 : Int32)) (by decide) (by decide)
  have s_1251 : sg 1 2 0 4 g_1247 := sg_out s_1242 eg_1247 (⟨by decide, by decide⟩ : rg 11 11 (11 : Int32)) (by decide) (by decide)
  have s_1252 : sg 2 3 0 5 g_1247 := sg_out s_1243 eg_1247 (⟨by decide, by decide⟩ : rg 11 11 (11 : Int32)) (by decide) (by decide)
  have s_1253 : sg 3 4 3 3 g_1247 := sg_out s_1244 eg_1247 (⟨by decide, by decide⟩ : rg 11 11 (11 : Int32)) (by decide) (by decide)
  have s_1254 : sg 4 5 1 1 g_1247 := sg_out s_1245 eg_1247 (⟨by decide, by decide⟩ : rg 11 11 (11 : Int32)) (by decide) (by decide)
  have hP : va_P D vwCl [(aI ca q_1124 940 (fun _ => 0)), (aI ca q_1125 376 g_1247), (aI ca q_1127 752 (fun _ => 0)), (aI ca q_1128 360 (fun _ => 0)), (aI ca q_1129 45 (fun _ => 0)), (aJ ca q_1130 19 (fun _ => 0)), (aJ ca q_1131 19 (fun _ => 0)), (aJ ca q_1132 38 (fun _ => 0)), (aZ ca q_1133 2 (fun _ => 0)), (aI ca q_1135 10 (fun _ => 0)), (aZ ca q_1136 1024 (fun _ => 0)), (aI ca q_1137 64 (fun _ => 0)), (aI ca q_1138 80 (fun _ => 0)), (aI ca q_1139 4 (fun _ => 0)), (aI ca q_1140 240 (fun _ => 0)), (h0, .inr (11, [.int 0, .ref q_1124, .int 0, .int 0, .int 0, .int 0, .int 0, .int 0, .int 0, .int 0, .int 0, .int 0, .long 0, .int 0, .ref q_1125, .ref q_1126, .ref q_1127, .ref q_1128, .ref q_1129, .ref q_1130, .ref q_1131, .ref q_1132, .ref q_1133, .ref q_1134, .int 0, .int 0, .int 0, .int (-1), .int (-1), .int (-1), .ref q_1135, .int (-1), .int (-1), .ref q_1136, .int (-1), .int (-1), .ref q_1137, .int 0, .int 0, .ref q_1138, .ref q_1139, .int 0, .int 0, .ref q_1140, .int 0, .int 0, .int 0, .int 0])), (aI ca q_1126 89 u_1143), (aZ ca q_1134 2 u_1144)] H := hP
  have hD : va_D A [(aI ca q_1124 940 (fun _ => 0)), (aI ca q_1125 376 g_1247), (aI ca q_1127 752 (fun _ => 0)), (aI ca q_1128 360 (fun _ => 0)), (aI ca q_1129 45 (fun _ => 0)), (aJ ca q_1130 19 (fun _ => 0)), (aJ ca q_1131 19 (fun _ => 0)), (aJ ca q_1132 38 (fun _ => 0)), (aZ ca q_1133 2 (fun _ => 0)), (aI ca q_1135 10 (fun _ => 0)), (aZ ca q_1136 1024 (fun _ => 0)), (aI ca q_1137 64 (fun _ => 0)), (aI ca q_1138 80 (fun _ => 0)), (aI ca q_1139 4 (fun _ => 0)), (aI ca q_1140 240 (fun _ => 0)), (h0, .inr (11, [.int 0, .ref q_1124, .int 0, .int 0, .int 0, .int 0, .int 0, .int 0, .int 0, .int 0, .int 0, .int 0, .long 0, .int 0, .ref q_1125, .ref q_1126, .ref q_1127, .ref q_1128, .ref q_1129, .ref q_1130, .ref q_1131, .ref q_1132, .ref q_1133, .ref q_1134, .int 0, .int 0, .int 0, .int (-1), .int (-1), .int (-1), .ref q_1135, .int (-1), .int (-1), .ref q_1136, .int (-1), .int (-1), .ref q_1137, .int 0, .int 0, .ref q_1138, .ref q_1139, .int 0, .int 0, .ref q_1140, .int 0, .int 0, .int 0, .int 0])), (aI ca q_1126 89 u_1143), (aZ ca q_1134 2 u_1144)] := hD
  refine lv_iinc (v := 12) (lv' := [(1, .int 12), (0, .ref h0)]) hx hb dX12_init_202 hl (k := 0) rfl (by decide) (by decide) rfl (fun ls hl => ?_)
  refine lv_goto (tgt := 184) hx hb dX12_init_205 (by decide) ?_
  clear s_1240 s_1241 s_1242 s_1243 s_1244 s_1245 ex_1246 eg_1247
  refine lv_iload_n hx hb dX12_init_184 rfl (lv_at hl 0 rfl) ?_
  refine lv_bipush (v := 89) hx hb dX12_init_185 (by decide) ?_
  refine lv_icmp_ge (tgt := 208) hx hb dX12_init_187 (by decide) (fun c => absurd c (by decide)) (fun _ => ?_)
  refine lv_aload_n hx hb dX12_init_190 rfl (lv_at hl 1 rfl) ?_
  refine va_get (D := D) (ci := 11) (v := .ref q_1125) (C := RX12) (T := TX12) (N := 48) hx hb hts k6 hown hK.1 hP 15 rfl rfl 14 (by decide) k7 (fun _ h9 => h9) rfl dX12_init_191 ?_
  refine lv_iload_n hx hb dX12_init_194 rfl (lv_at hl 0 rfl) ?_
  refine lv_aload_n hx hb dX12_init_195 rfl (lv_at hl 1 rfl) ?_
  refine va_get (D := D) (ci := 11) (v := .ref q_1126) (C := RX12) (T := TX12) (N := 48) hx hb hts k6 hown hK.1 hP 15 rfl rfl 15 (by decide) k8 (fun _ h9 => h9) rfl dX12_init_196 ?_
  refine lv_iload_n hx hb dX12_init_199 rfl (lv_at hl 0 rfl) ?_
  refine va_iald hx hb hK.1 hP 16 0 rfl rfl (rg_in (⟨by decide, by decide⟩ : rg 12 12 (12 : Int32)) (by decide) (by decide)) dX12_init_200 ?_
  refine lv_topi (fun x_1255 ex_1255 => ?_)
  refine va_iast hx hb hK.1 hP hD hS 1 0 rfl rfl (rg_in (⟨by decide, by decide⟩ : rg 12 12 (12 : Int32)) (by decide) (by decide)) dX12_init_201 (fun H locs hP hD hS => ?_)
  obtain ⟨g_1256, eg_1256⟩ : ∃ y : Nat → Int32, y = upd g_1247 (12 : Int32).toNatClampNeg (x_1255 : Int32) := ⟨_, rfl⟩
  rw [← eg_1256] at hP hD
  have s_1258 : sg 13 376 0 0 g_1256 := sg_out (sg_w s_1249 (by decide) (by decide) (by decide) (by decide)) eg_1256 (⟨by decide, by decide⟩ : rg 12 12 (12 : Int32)) (by decide) (by decide)
  have s_1259 : sg 0 1 0 10 g_1256 := sg_out s_1250 eg_1256 (⟨by decide, by decide⟩ : rg 12 12 (12 : Int32)) (by decide) (by decide)
  have s_1260 : sg 1 2 0 4 g_1256 := sg_out s_1251 eg_1256 (⟨by decide, by decide⟩ : rg 12 12 (12 : Int32)) (by decide) (by decide)
  have s_1261 : sg 2 3 0 5 g_1256 := sg_out s_1252 eg_1256 (⟨by decide, by decide⟩ : rg 12 12 (12 : Int32)) (by decide) (by decide)
  have s_1262 : sg 3 4 3 3 g_1256 := sg_out s_1253 eg_1256 (⟨by decide, by decide⟩ : rg 12 12 (12 : Int32)) (by decide) (by decide)
  have s_1263 : sg 4 5 1 1 g_1256 := sg_out s_1254 eg_1256 (⟨by decide, by decide⟩ : rg 12 12 (12 : Int32)) (by decide) (by decide)
  have hP : va_P D vwCl [(aI ca q_1124 940 (fun _ => 0)), (aI ca q_1125 376 g_1256), (aI ca q_1127 752 (fun _ => 0)), (aI ca q_1128 360 (fun _ => 0)), (aI ca q_1129 45 (fun _ => 0)), (aJ ca q_1130 19 (fun _ => 0)), (aJ ca q_1131 19 (fun _ => 0)), (aJ ca q_1132 38 (fun _ => 0)), (aZ ca q_1133 2 (fun _ => 0)), (aI ca q_1135 10 (fun _ => 0)), (aZ ca q_1136 1024 (fun _ => 0)), (aI ca q_1137 64 (fun _ => 0)), (aI ca q_1138 80 (fun _ => 0)), (aI ca q_1139 4 (fun _ => 0)), (aI ca q_1140 240 (fun _ => 0)), (h0, .inr (11, [.int 0, .ref q_1124, .int 0, .int 0, .int 0, .int 0, .int 0, .int 0, .int 0, .int 0, .int 0, .int 0, .long 0, .int 0, .ref q_1125, .ref q_1126, .ref q_1127, .ref q_1128, .ref q_1129, .ref q_1130, .ref q_1131, .ref q_1132, .ref q_1133, .ref q_1134, .int 0, .int 0, .int 0, .int (-1), .int (-1), .int (-1), .ref q_1135, .int (-1), .int (-1), .ref q_1136, .int (-1), .int (-1), .ref q_1137, .int 0, .int 0, .ref q_1138, .ref q_1139, .int 0, .int 0, .ref q_1140, .int 0, .int 0, .int 0, .int 0])), (aI ca q_1126 89 u_1143), (aZ ca q_1134 2 u_1144)] H := hP
  have hD : va_D A [(aI ca q_1124 940 (fun _ => 0)), (aI ca q_1125 376 g_1256), (aI ca q_1127 752 (fun _ => 0)), (aI ca q_1128 360 (fun _ => 0)), (aI ca q_1129 45 (fun _ => 0)), (aJ ca q_1130 19 (fun _ => 0)), (aJ ca q_1131 19 (fun _ => 0)), (aJ ca q_1132 38 (fun _ => 0)), (aZ ca q_1133 2 (fun _ => 0)), (aI ca q_1135 10 (fun _ => 0)), (aZ ca q_1136 1024 (fun _ => 0)), (aI ca q_1137 64 (fun _ => 0)), (aI ca q_1138 80 (fun _ => 0)), (aI ca q_1139 4 (fun _ => 0)), (aI ca q_1140 240 (fun _ => 0)), (h0, .inr (11, [.int 0, .ref q_1124, .int 0, .int 0, .int 0, .int 0, .int 0, .int 0, .int 0, .int 0, .int 0, .int 0, .long 0, .int 0, .ref q_1125, .ref q_1126, .ref q_1127, .ref q_1128, .ref q_1129, .ref q_1130, .ref q_1131, .ref q_1132, .ref q_1133, .ref q_1134, .int 0, .int 0, .int 0, .int (-1), .int (-1), .int (-1), .ref q_1135, .int (-1), .int (-1), .ref q_1136, .int (-1), .int (-1), .ref q_1137, .int 0, .int 0, .ref q_1138, .ref q_1139, .int 0, .int 0, .ref q_1140, .int 0, .int 0, .int 0, .int 0])), (aI ca q_1126 89 u_1143), (aZ ca q_1134 2 u_1144)] := hD
  refine lv_iinc (v := 13) (lv' := [(1, .int 13), (0, .ref h0)]) hx hb dX12_init_202 hl (k := 0) rfl (by decide) (by decide) rfl (fun ls hl => ?_)
  refine lv_goto (tgt := 184) hx hb dX12_init_205 (by decide) ?_
  clear s_1249 s_1250 s_1251 s_1252 s_1253 s_1254 ex_1255 eg_1256
  refine lv_iload_n hx hb dX12_init_184 rfl (lv_at hl 0 rfl) ?_
  refine lv_bipush (v := 89) hx hb dX12_init_185 (by decide) ?_
  refine lv_icmp_ge (tgt := 208) hx hb dX12_init_187 (by decide) (fun c => absurd c (by decide)) (fun _ => ?_)
  refine lv_aload_n hx hb dX12_init_190 rfl (lv_at hl 1 rfl) ?_
  refine va_get (D := D) (ci := 11) (v := .ref q_1125) (C := RX12) (T := TX12) (N := 48) hx hb hts k6 hown hK.1 hP 15 rfl rfl 14 (by decide) k7 (fun _ h9 => h9) rfl dX12_init_191 ?_
  refine lv_iload_n hx hb dX12_init_194 rfl (lv_at hl 0 rfl) ?_
  refine lv_aload_n hx hb dX12_init_195 rfl (lv_at hl 1 rfl) ?_
  refine va_get (D := D) (ci := 11) (v := .ref q_1126) (C := RX12) (T := TX12) (N := 48) hx hb hts k6 hown hK.1 hP 15 rfl rfl 15 (by decide) k8 (fun _ h9 => h9) rfl dX12_init_196 ?_
  refine lv_iload_n hx hb dX12_init_199 rfl (lv_at hl 0 rfl) ?_
  refine va_iald hx hb hK.1 hP 16 0 rfl rfl (rg_in (⟨by decide, by decide⟩ : rg 13 13 (13 : Int32)) (by decide) (by decide)) dX12_init_200 ?_
  refine lv_topi (fun x_1264 ex_1264 => ?_)
  refine va_iast hx hb hK.1 hP hD hS 1 0 rfl rfl (rg_in (⟨by decide, by decide⟩ : rg 13 13 (13 : Int32)) (by decide) (by decide)) dX12_init_201 (fun H locs hP hD hS => ?_)
  obtain ⟨g_1265, eg_1265⟩ : ∃ y : Nat → Int32, y = upd g_1256 (13 : Int32).toNatClampNeg (x_1264 : Int32) := ⟨_, rfl⟩
  rw [← eg_1265] at hP hD
  have s_1267 : sg 14 376 0 0 g_1265 := sg_out (sg_w s_1258 (by decide) (by decide) (by decide) (by decide)) eg_1265 (⟨by decide, by decide⟩ : rg 13 13 (13 : Int32)) (by decide) (by decide)
  have s_1268 : sg 0 1 0 10 g_1265 := sg_out s_1259 eg_1265 (⟨by decide, by decide⟩ : rg 13 13 (13 : Int32)) (by decide) (by decide)
  have s_1269 : sg 1 2 0 4 g_1265 := sg_out s_1260 eg_1265 (⟨by decide, by decide⟩ : rg 13 13 (13 : Int32)) (by decide) (by decide)
  have s_1270 : sg 2 3 0 5 g_1265 := sg_out s_1261 eg_1265 (⟨by decide, by decide⟩ : rg 13 13 (13 : Int32)) (by decide) (by decide)
  have s_1271 : sg 3 4 3 3 g_1265 := sg_out s_1262 eg_1265 (⟨by decide, by decide⟩ : rg 13 13 (13 : Int32)) (by decide) (by decide)
  have s_1272 : sg 4 5 1 1 g_1265 := sg_out s_1263 eg_1265 (⟨by decide, by decide⟩ : rg 13 13 (13 : Int32)) (by decide) (by decide)
  have hP : va_P D vwCl [(aI ca q_1124 940 (fun _ => 0)), (aI ca q_1125 376 g_1265), (aI ca q_1127 752 (fun _ => 0)), (aI ca q_1128 360 (fun _ => 0)), (aI ca q_1129 45 (fun _ => 0)), (aJ ca q_1130 19 (fun _ => 0)), (aJ ca q_1131 19 (fun _ => 0)), (aJ ca q_1132 38 (fun _ => 0)), (aZ ca q_1133 2 (fun _ => 0)), (aI ca q_1135 10 (fun _ => 0)), (aZ ca q_1136 1024 (fun _ => 0)), (aI ca q_1137 64 (fun _ => 0)), (aI ca q_1138 80 (fun _ => 0)), (aI ca q_1139 4 (fun _ => 0)), (aI ca q_1140 240 (fun _ => 0)), (h0, .inr (11, [.int 0, .ref q_1124, .int 0, .int 0, .int 0, .int 0, .int 0, .int 0, .int 0, .int 0, .int 0, .int 0, .long 0, .int 0, .ref q_1125, .ref q_1126, .ref q_1127, .ref q_1128, .ref q_1129, .ref q_1130, .ref q_1131, .ref q_1132, .ref q_1133, .ref q_1134, .int 0, .int 0, .int 0, .int (-1), .int (-1), .int (-1), .ref q_1135, .int (-1), .int (-1), .ref q_1136, .int (-1), .int (-1), .ref q_1137, .int 0, .int 0, .ref q_1138, .ref q_1139, .int 0, .int 0, .ref q_1140, .int 0, .int 0, .int 0, .int 0])), (aI ca q_1126 89 u_1143), (aZ ca q_1134 2 u_1144)] H := hP
  have hD : va_D A [(aI ca q_1124 940 (fun _ => 0)), (aI ca q_1125 376 g_1265), (aI ca q_1127 752 (fun _ => 0)), (aI ca q_1128 360 (fun _ => 0)), (aI ca q_1129 45 (fun _ => 0)), (aJ ca q_1130 19 (fun _ => 0)), (aJ ca q_1131 19 (fun _ => 0)), (aJ ca q_1132 38 (fun _ => 0)), (aZ ca q_1133 2 (fun _ => 0)), (aI ca q_1135 10 (fun _ => 0)), (aZ ca q_1136 1024 (fun _ => 0)), (aI ca q_1137 64 (fun _ => 0)), (aI ca q_1138 80 (fun _ => 0)), (aI ca q_1139 4 (fun _ => 0)), (aI ca q_1140 240 (fun _ => 0)), (h0, .inr (11, [.int 0, .ref q_1124, .int 0, .int 0, .int 0, .int 0, .int 0, .int 0, .int 0, .int 0, .int 0, .int 0, .long 0, .int 0, .ref q_1125, .ref q_1126, .ref q_1127, .ref q_1128, .ref q_1129, .ref q_1130, .ref q_1131, .ref q_1132, .ref q_1133, .ref q_1134, .int 0, .int 0, .int 0, .int (-1), .int (-1), .int (-1), .ref q_1135, .int (-1), .int (-1), .ref q_1136, .int (-1), .int (-1), .ref q_1137, .int 0, .int 0, .ref q_1138, .ref q_1139, .int 0, .int 0, .ref q_1140, .int 0, .int 0, .int 0, .int 0])), (aI ca q_1126 89 u_1143), (aZ ca q_1134 2 u_1144)] := hD
  refine lv_iinc (v := 14) (lv' := [(1, .int 14), (0, .ref h0)]) hx hb dX12_init_202 hl (k := 0) rfl (by decide) (by decide) rfl (fun ls hl => ?_)
  refine lv_goto (tgt := 184) hx hb dX12_init_205 (by decide) ?_
  clear s_1258 s_1259 s_1260 s_1261 s_1262 s_1263 ex_1264 eg_1265
  refine lv_iload_n hx hb dX12_init_184 rfl (lv_at hl 0 rfl) ?_
  refine lv_bipush (v := 89) hx hb dX12_init_185 (by decide) ?_
  refine lv_icmp_ge (tgt := 208) hx hb dX12_init_187 (by decide) (fun c => absurd c (by decide)) (fun _ => ?_)
  refine lv_aload_n hx hb dX12_init_190 rfl (lv_at hl 1 rfl) ?_
  refine va_get (D := D) (ci := 11) (v := .ref q_1125) (C := RX12) (T := TX12) (N := 48) hx hb hts k6 hown hK.1 hP 15 rfl rfl 14 (by decide) k7 (fun _ h9 => h9) rfl dX12_init_191 ?_
  refine lv_iload_n hx hb dX12_init_194 rfl (lv_at hl 0 rfl) ?_
  refine lv_aload_n hx hb dX12_init_195 rfl (lv_at hl 1 rfl) ?_
  refine va_get (D := D) (ci := 11) (v := .ref q_1126) (C := RX12) (T := TX12) (N := 48) hx hb hts k6 hown hK.1 hP 15 rfl rfl 15 (by decide) k8 (fun _ h9 => h9) rfl dX12_init_196 ?_
  refine lv_iload_n hx hb dX12_init_199 rfl (lv_at hl 0 rfl) ?_
  refine va_iald hx hb hK.1 hP 16 0 rfl rfl (rg_in (⟨by decide, by decide⟩ : rg 14 14 (14 : Int32)) (by decide) (by decide)) dX12_init_200 ?_
  refine lv_topi (fun x_1273 ex_1273 => ?_)
  refine va_iast hx hb hK.1 hP hD hS 1 0 rfl rfl (rg_in (⟨by decide, by decide⟩ : rg 14 14 (14 : Int32)) (by decide) (by decide)) dX12_init_201 (fun H locs hP hD hS => ?_)
  obtain ⟨g_1274, eg_1274⟩ : ∃ y : Nat → Int32, y = upd g_1265 (14 : Int32).toNatClampNeg (x_1273 : Int32) := ⟨_, rfl⟩
  rw [← eg_1274] at hP hD
  have s_1276 : sg 15 376 0 0 g_1274 := sg_out (sg_w s_1267 (by decide) (by decide) (by decide) (by decide)) eg_1274 (⟨by decide, by decide⟩ : rg 14 14 (14 : Int32)) (by decide) (by decide)
  have s_1277 : sg 0 1 0 10 g_1274 := sg_out s_1268 eg_1274 (⟨by decide, by decide⟩ : rg 14 14 (14 : Int32)) (by decide) (by decide)
  have s_1278 : sg 1 2 0 4 g_1274 := sg_out s_1269 eg_1274 (⟨by decide, by decide⟩ : rg 14 14 (14 : Int32)) (by decide) (by decide)
  have s_1279 : sg 2 3 0 5 g_1274 := sg_out s_1270 eg_1274 (⟨by decide, by decide⟩ : rg 14 14 (14 : Int32)) (by decide) (by decide)
  have s_1280 : sg 3 4 3 3 g_1274 := sg_out s_1271 eg_1274 (⟨by decide, by decide⟩ : rg 14 14 (14 : Int32)) (by decide) (by decide)
  have s_1281 : sg 4 5 1 1 g_1274 := sg_out s_1272 eg_1274 (⟨by decide, by decide⟩ : rg 14 14 (14 : Int32)) (by decide) (by decide)
  have hP : va_P D vwCl [(aI ca q_1124 940 (fun _ => 0)), (aI ca q_1125 376 g_1274), (aI ca q_1127 752 (fun _ => 0)), (aI ca q_1128 360 (fun _ => 0)), (aI ca q_1129 45 (fun _ => 0)), (aJ ca q_1130 19 (fun _ => 0)), (aJ ca q_1131 19 (fun _ => 0)), (aJ ca q_1132 38 (fun _ => 0)), (aZ ca q_1133 2 (fun _ => 0)), (aI ca q_1135 10 (fun _ => 0)), (aZ ca q_1136 1024 (fun _ => 0)), (aI ca q_1137 64 (fun _ => 0)), (aI ca q_1138 80 (fun _ => 0)), (aI ca q_1139 4 (fun _ => 0)), (aI ca q_1140 240 (fun _ => 0)), (h0, .inr (11, [.int 0, .ref q_1124, .int 0, .int 0, .int 0, .int 0, .int 0, .int 0, .int 0, .int 0, .int 0, .int 0, .long 0, .int 0, .ref q_1125, .ref q_1126, .ref q_1127, .ref q_1128, .ref q_1129, .ref q_1130, .ref q_1131, .ref q_1132, .ref q_1133, .ref q_1134, .int 0, .int 0, .int 0, .int (-1), .int (-1), .int (-1), .ref q_1135, .int (-1), .int (-1), .ref q_1136, .int (-1), .int (-1), .ref q_1137, .int 0, .int 0, .ref q_1138, .ref q_1139, .int 0, .int 0, .ref q_1140, .int 0, .int 0, .int 0, .int 0])), (aI ca q_1126 89 u_1143), (aZ ca q_1134 2 u_1144)] H := hP
  have hD : va_D A [(aI ca q_1124 940 (fun _ => 0)), (aI ca q_1125 376 g_1274), (aI ca q_1127 752 (fun _ => 0)), (aI ca q_1128 360 (fun _ => 0)), (aI ca q_1129 45 (fun _ => 0)), (aJ ca q_1130 19 (fun _ => 0)), (aJ ca q_1131 19 (fun _ => 0)), (aJ ca q_1132 38 (fun _ => 0)), (aZ ca q_1133 2 (fun _ => 0)), (aI ca q_1135 10 (fun _ => 0)), (aZ ca q_1136 1024 (fun _ => 0)), (aI ca q_1137 64 (fun _ => 0)), (aI ca q_1138 80 (fun _ => 0)), (aI ca q_1139 4 (fun _ => 0)), (aI ca q_1140 240 (fun _ => 0)), (h0, .inr (11, [.int 0, .ref q_1124, .int 0, .int 0, .int 0, .int 0, .int 0, .int 0, .int 0, .int 0, .int 0, .int 0, .long 0, .int 0, .ref q_1125, .ref q_1126, .ref q_1127, .ref q_1128, .ref q_1129, .ref q_1130, .ref q_1131, .ref q_1132, .ref q_1133, .ref q_1134, .int 0, .int 0, .int 0, .int (-1), .int (-1), .int (-1), .ref q_1135, .int (-1), .int (-1), .ref q_1136, .int (-1), .int (-1), .ref q_1137, .int 0, .int 0, .ref q_1138, .ref q_1139, .int 0, .int 0, .ref q_1140, .int 0, .int 0, .int 0, .int 0])), (aI ca q_1126 89 u_1143), (aZ ca q_1134 2 u_1144)] := hD
  refine lv_iinc (v := 15) (lv' := [(1, .int 15), (0, .ref h0)]) hx hb dX12_init_202 hl (k := 0) rfl (by decide) (by decide) rfl (fun ls hl => ?_)
  refine lv_goto (tgt := 184) hx hb dX12_init_205 (by decide) ?_
  clear s_1267 s_1268 s_1269 s_1270 s_1271 s_1272 ex_1273 eg_1274
  refine lv_iload_n hx hb dX12_init_184 rfl (lv_at hl 0 rfl) ?_
  refine lv_bipush (v := 89) hx hb dX12_init_185 (by decide) ?_
  refine lv_icmp_ge (tgt := 208) hx hb dX12_init_187 (by decide) (fun c => absurd c (by decide)) (fun _ => ?_)
  refine lv_aload_n hx hb dX12_init_190 rfl (lv_at hl 1 rfl) ?_
  refine va_get (D := D) (ci := 11) (v := .ref q_1125) (C := RX12) (T := TX12) (N := 48) hx hb hts k6 hown hK.1 hP 15 rfl rfl 14 (by decide) k7 (fun _ h9 => h9) rfl dX12_init_191 ?_
  refine lv_iload_n hx hb dX12_init_194 rfl (lv_at hl 0 rfl) ?_
  refine lv_aload_n hx hb dX12_init_195 rfl (lv_at hl 1 rfl) ?_
  refine va_get (D := D) (ci := 11) (v := .ref q_1126) (C := RX12) (T := TX12) (N := 48) hx hb hts k6 hown hK.1 hP 15 rfl rfl 15 (by decide) k8 (fun _ h9 => h9) rfl dX12_init_196 ?_
  refine lv_iload_n hx hb dX12_init_199 rfl (lv_at hl 0 rfl) ?_
  refine va_iald hx hb hK.1 hP 16 0 rfl rfl (rg_in (⟨by decide, by decide⟩ : rg 15 15 (15 : Int32)) (by decide) (by decide)) dX12_init_200 ?_
  refine lv_topi (fun x_1282 ex_1282 => ?_)
  refine va_iast hx hb hK.1 hP hD hS 1 0 rfl rfl (rg_in (⟨by decide, by decide⟩ : rg 15 15 (15 : Int32)) (by decide) (by decide)) dX12_init_201 (fun H locs hP hD hS => ?_)
  obtain ⟨g_1283, eg_1283⟩ : ∃ y : Nat → Int32, y = upd g_1274 (15 : Int32).toNatClampNeg (x_1282 : Int32) := ⟨_, rfl⟩
  rw [← eg_1283] at hP hD
  have s_1285 : sg 16 376 0 0 g_1283 := sg_out (sg_w s_1276 (by decide) (by decide) (by decide) (by decide)) eg_1283 (⟨by decide, by decide⟩ : rg 15 15 (15 : Int32)) (by decide) (by decide)
  have s_1286 : sg 0 1 0 10 g_1283 := sg_out s_1277 eg_1283 (⟨by decide, by decide⟩ : rg 15 15 (15 : Int32)) (by decide) (by decide)
  have s_1287 : sg 1 2 0 4 g_1283 := sg_out s_1278 eg_1283 (⟨by decide, by decide⟩ : rg 15 15 (15 : Int32)) (by decide) (by decide)
  have s_1288 : sg 2 3 0 5 g_1283 := sg_out s_1279 eg_1283 (⟨by decide, by decide⟩ : rg 15 15 (15 : Int32)) (by decide) (by decide)
  have s_1289 : sg 3 4 3 3 g_1283 := sg_out s_1280 eg_1283 (⟨by decide, by decide⟩ : rg 15 15 (15 : Int32)) (by decide) (by decide)
  have s_1290 : sg 4 5 1 1 g_1283 := sg_out s_1281 eg_1283 (⟨by decide, by decide⟩ : rg 15 15 (15 : Int32)) (by decide) (by decide)
  have hP : va_P D vwCl [(aI ca q_1124 940 (fun _ => 0)), (aI ca q_1125 376 g_1283), (aI ca q_1127 752 (fun _ => 0)), (aI ca q_1128 360 (fun _ => 0)), (aI ca q_1129 45 (fun _ => 0)), (aJ ca q_1130 19 (fun _ => 0)), (aJ ca q_1131 19 (fun _ => 0)), (aJ ca q_1132 38 (fun _ => 0)), (aZ ca q_1133 2 (fun _ => 0)), (aI ca q_1135 10 (fun _ => 0)), (aZ ca q_1136 1024 (fun _ => 0)), (aI ca q_1137 64 (fun _ => 0)), (aI ca q_1138 80 (fun _ => 0)), (aI ca q_1139 4 (fun _ => 0)), (aI ca q_1140 240 (fun _ => 0)), (h0, .inr (11, [.int 0, .ref q_1124, .int 0, .int 0, .int 0, .int 0, .int 0, .int 0, .int 0, .int 0, .int 0, .int 0, .long 0, .int 0, .ref q_1125, .ref q_1126, .ref q_1127, .ref q_1128, .ref q_1129, .ref q_1130, .ref q_1131, .ref q_1132, .ref q_1133, .ref q_1134, .int 0, .int 0, .int 0, .int (-1), .int (-1), .int (-1), .ref q_1135, .int (-1), .int (-1), .ref q_1136, .int (-1), .int (-1), .ref q_1137, .int 0, .int 0, .ref q_1138, .ref q_1139, .int 0, .int 0, .ref q_1140, .int 0, .int 0, .int 0, .int 0])), (aI ca q_1126 89 u_1143), (aZ ca q_1134 2 u_1144)] H := hP
  have hD : va_D A [(aI ca q_1124 940 (fun _ => 0)), (aI ca q_1125 376 g_1283), (aI ca q_1127 752 (fun _ => 0)), (aI ca q_1128 360 (fun _ => 0)), (aI ca q_1129 45 (fun _ => 0)), (aJ ca q_1130 19 (fun _ => 0)), (aJ ca q_1131 19 (fun _ => 0)), (aJ ca q_1132 38 (fun _ => 0)), (aZ ca q_1133 2 (fun _ => 0)), (aI ca q_1135 10 (fun _ => 0)), (aZ ca q_1136 1024 (fun _ => 0)), (aI ca q_1137 64 (fun _ => 0)), (aI ca q_1138 80 (fun _ => 0)), (aI ca q_1139 4 (fun _ => 0)), (aI ca q_1140 240 (fun _ => 0)), (h0, .inr (11, [.int 0, .ref q_1124, .int 0, .int 0, .int 0, .int 0, .int 0, .int 0, .int 0, .int 0, .int 0, .int 0, .long 0, .int 0, .ref q_1125, .ref q_1126, .ref q_1127, .ref q_1128, .ref q_1129, .ref q_1130, .ref q_1131, .ref q_1132, .ref q_1133, .ref q_1134, .int 0, .int 0, .int 0, .int (-1), .int (-1), .int (-1), .ref q_1135, .int (-1), .int (-1), .ref q_1136, .int (-1), .int (-1), .ref q_1137, .int 0, .int 0, .ref q_1138, .ref q_1139, .int 0, .int 0, .ref q_1140, .int 0, .int 0, .int 0, .int 0])), (aI ca q_1126 89 u_1143), (aZ ca q_1134 2 u_1144)] := hD
  refine lv_iinc (v := 16) (lv' := [(1, .int 16), (0, .ref h0)]) hx hb dX12_init_202 hl (k := 0) rfl (by decide) (by decide) rfl (fun ls hl => ?_)
  refine lv_goto (tgt := 184) hx hb dX12_init_205 (by decide) ?_
  clear s_1276 s_1277 s_1278 s_1279 s_1280 s_1281 ex_1282 eg_1283
  refine lv_iload_n hx hb dX12_init_184 rfl (lv_at hl 0 rfl) ?_
  refine lv_bipush (v := 89) hx hb dX12_init_185 (by decide) ?_
  refine lv_icmp_ge (tgt := 208) hx hb dX12_init_187 (by decide) (fun c => absurd c (by decide)) (fun _ => ?_)
  refine lv_aload_n hx hb dX12_init_190 rfl (lv_at hl 1 rfl) ?_
  refine va_get (D := D) (ci := 11) (v := .ref q_1125) (C := RX12) (T := TX12) (N := 48) hx hb hts k6 hown hK.1 hP 15 rfl rfl 14 (by decide) k7 (fun _ h9 => h9) rfl dX12_init_191 ?_
  refine lv_iload_n hx hb dX12_init_194 rfl (lv_at hl 0 rfl) ?_
  refine lv_aload_n hx hb dX12_init_195 rfl (lv_at hl 1 rfl) ?_
  refine va_get (D := D) (ci := 11) (v := .ref q_1126) (C := RX12) (T := TX12) (N := 48) hx hb hts k6 hown hK.1 hP 15 rfl rfl 15 (by decide) k8 (fun _ h9 => h9) rfl dX12_init_196 ?_
  refine lv_iload_n hx hb dX12_init_199 rfl (lv_at hl 0 rfl) ?_
  refine va_iald hx hb hK.1 hP 16 0 rfl rfl (rg_in (⟨by decide, by decide⟩ : rg 16 16 (16 : Int32)) (by decide) (by decide)) dX12_init_200 ?_
  refine lv_topi (fun x_1291 ex_1291 => ?_)
  refine va_iast hx hb hK.1 hP hD hS 1 0 rfl rfl (rg_in (⟨by decide, by decide⟩ : rg 16 16 (16 : Int32)) (by decide) (by decide)) dX12_init_201 (fun H locs hP hD hS => ?_)
  obtain ⟨g_1292, eg_1292⟩ : ∃ y : Nat → Int32, y = upd g_1283 (16 : Int32).toNatClampNeg (x_1291 : Int32) := ⟨_, rfl⟩
  rw [← eg_1292] at hP hD
  have s_1294 : sg 17 376 0 0 g_1292 := sg_out (sg_w s_1285 (by decide) (by decide) (by decide) (by decide)) eg_1292 (⟨by decide, by decide⟩ : rg 16 16 (16 : Int32)) (by decide) (by decide)
  have s_1295 : sg 0 1 0 10 g_1292 := sg_out s_1286 eg_1292 (⟨by decide, by decide⟩ : rg 16 16 (16 : Int32)) (by decide) (by decide)
  have s_1296 : sg 1 2 0 4 g_1292 := sg_out s_1287 eg_1292 (⟨by decide, by decide⟩ : rg 16 16 (16 : Int32)) (by decide) (by decide)
  have s_1297 : sg 2 3 0 5 g_1292 := sg_out s_1288 eg_1292 (⟨by decide, by decide⟩ : rg 16 16 (16 : Int32)) (by decide) (by decide)
  have s_1298 : sg 3 4 3 3 g_1292 := sg_out s_1289 eg_1292 (⟨by decide, by decide⟩ : rg 16 16 (16 : Int32)) (by decide) (by decide)
  have s_1299 : sg 4 5 1 1 g_1292 := sg_out s_1290 eg_1292 (⟨by decide, by decide⟩ : rg 16 16 (16 : Int32)) (by decide) (by decide)
  have hP : va_P D vwCl [(aI ca q_1124 940 (fun _ => 0)), (aI ca q_1125 376 g_1292), (aI ca q_1127 752 (fun _ => 0)), (aI ca q_1128 360 (fun _ => 0)), (aI ca q_1129 45 (fun _ => 0)), (aJ ca q_1130 19 (fun _ => 0)), (aJ ca q_1131 19 (fun _ => 0)), (aJ ca q_1132 38 (fun _ => 0)), (aZ ca q_1133 2 (fun _ => 0)), (aI ca q_1135 10 (fun _ => 0)), (aZ ca q_1136 1024 (fun _ => 0)), (aI ca q_1137 64 (fun _ => 0)), (aI ca q_1138 80 (fun _ => 0)), (aI ca q_1139 4 (fun _ => 0)), (aI ca q_1140 240 (fun _ => 0)), (h0, .inr (11, [.int 0, .ref q_1124, .int 0, .int 0, .int 0, .int 0, .int 0, .int 0, .int 0, .int 0, .int 0, .int 0, .long 0, .int 0, .ref q_1125, .ref q_1126, .ref q_1127, .ref q_1128, .ref q_1129, .ref q_1130, .ref q_1131, .ref q_1132, .ref q_1133, .ref q_1134, .int 0, .int 0, .int 0, .int (-1), .int (-1), .int (-1), .ref q_1135, .int (-1), .int (-1), .ref q_1136, .int (-1), .int (-1), .ref q_1137, .int 0, .int 0, .ref q_1138, .ref q_1139, .int 0, .int 0, .ref q_1140, .int 0, .int 0, .int 0, .int 0])), (aI ca q_1126 89 u_1143), (aZ ca q_1134 2 u_1144)] H := hP
  have hD : va_D A [(aI ca q_1124 940 (fun _ => 0)), (aI ca q_1125 376 g_1292), (aI ca q_1127 752 (fun _ => 0)), (aI ca q_1128 360 (fun _ => 0)), (aI ca q_1129 45 (fun _ => 0)), (aJ ca q_1130 19 (fun _ => 0)), (aJ ca q_1131 19 (fun _ => 0)), (aJ ca q_1132 38 (fun _ => 0)), (aZ ca q_1133 2 (fun _ => 0)), (aI ca q_1135 10 (fun _ => 0)), (aZ ca q_1136 1024 (fun _ => 0)), (aI ca q_1137 64 (fun _ => 0)), (aI ca q_1138 80 (fun _ => 0)), (aI ca q_1139 4 (fun _ => 0)), (aI ca q_1140 240 (fun _ => 0)), (h0, .inr (11, [.int 0, .ref q_1124, .int 0, .int 0, .int 0, .int 0, .int 0, .int 0, .int 0, .int 0, .int 0, .int 0, .long 0, .int 0, .ref q_1125, .ref q_1126, .ref q_1127, .ref q_1128, .ref q_1129, .ref q_1130, .ref q_1131, .ref q_1132, .ref q_1133, .ref q_1134, .int 0, .int 0, .int 0, .int (-1), .int (-1), .int (-1), .ref q_1135, .int (-1), .int (-1), .ref q_1136, .int (-1), .int (-1), .ref q_1137, .int 0, .int 0, .ref q_1138, .ref q_1139, .int 0, .int 0, .ref q_1140, .int 0, .int 0, .int 0, .int 0])), (aI ca q_1126 89 u_1143), (aZ ca q_1134 2 u_1144)] := hD
  refine lv_iinc (v := 17) (lv' := [(1, .int 17), (0, .ref h0)]) hx hb dX12_init_202 hl (k := 0) rfl (by decide) (by decide) rfl (fun ls hl => ?_)
  refine lv_goto (tgt := 184) hx hb dX12_init_205 (by decide) ?_
  clear s_1285 s_1286 s_1287 s_1288 s_1289 s_1290 ex_1291 eg_1292
  refine lv_iload_n hx hb dX12_init_184 rfl (lv_at hl 0 rfl) ?_
  refine lv_bipush (v := 89) hx hb dX12_init_185 (by decide) ?_
  refine lv_icmp_ge (tgt := 208) hx hb dX12_init_187 (by decide) (fun c => absurd c (by decide)) (fun _ => ?_)
  refine lv_aload_n hx hb dX12_init_190 rfl (lv_at hl 1 rfl) ?_
  refine va_get (D := D) (ci := 11) (v := .ref q_1125) (C := RX12) (T := TX12) (N := 48) hx hb hts k6 hown hK.1 hP 15 rfl rfl 14 (by decide) k7 (fun _ h9 => h9) rfl dX12_init_191 ?_
  refine lv_iload_n hx hb dX12_init_194 rfl (lv_at hl 0 rfl) ?_
  refine lv_aload_n hx hb dX12_init_195 rfl (lv_at hl 1 rfl) ?_
  refine va_get (D := D) (ci := 11) (v := .ref q_1126) (C := RX12) (T := TX12) (N := 48) hx hb hts k6 hown hK.1 hP 15 rfl rfl 15 (by decide) k8 (fun _ h9 => h9) rfl dX12_init_196 ?_
  refine lv_iload_n hx hb dX12_init_199 rfl (lv_at hl 0 rfl) ?_
  refine va_iald hx hb hK.1 hP 16 0 rfl rfl (rg_in (⟨by decide, by decide⟩ : rg 17 17 (17 : Int32)) (by decide) (by decide)) dX12_init_200 ?_
  refine lv_topi (fun x_1300 ex_1300 => ?_)
  refine va_iast hx hb hK.1 hP hD hS 1 0 rfl rfl (rg_in (⟨by decide, by decide⟩ : rg 17 17 (17 : Int32)) (by decide) (by decide)) dX12_init_201 (fun H locs hP hD hS => ?_)
  obtain ⟨g_1301, eg_1301⟩ : ∃ y : Nat → Int32, y = upd g_1292 (17 : Int32).toNatClampNeg (x_1300 : Int32) := ⟨_, rfl⟩
  rw [← eg_1301] at hP hD
  have s_1303 : sg 18 376 0 0 g_1301 := sg_out (sg_w s_1294 (by decide) (by decide) (by decide) (by decide)) eg_1301 (⟨by decide, by decide⟩ : rg 17 17 (17 : Int32)) (by decide) (by decide)
  have s_1304 : sg 0 1 0 10 g_1301 := sg_out s_1295 eg_1301 (⟨by decide, by decide⟩ : rg 17 17 (17 : Int32)) (by decide) (by decide)
  have s_1305 : sg 1 2 0 4 g_1301 := sg_out s_1296 eg_1301 (⟨by decide, by decide⟩ : rg 17 17 (17 : Int32)) (by decide) (by decide)
  have s_1306 : sg 2 3 0 5 g_1301 := sg_out s_1297 eg_1301 (⟨by decide, by decide⟩ : rg 17 17 (17 : Int32)) (by decide) (by decide)
  have s_1307 : sg 3 4 3 3 g_1301 := sg_out s_1298 eg_1301 (⟨by decide, by decide⟩ : rg 17 17 (17 : Int32)) (by decide) (by decide)
  have s_1308 : sg 4 5 1 1 g_1301 := sg_out s_1299 eg_1301 (⟨by decide, by decide⟩ : rg 17 17 (17 : Int32)) (by decide) (by decide)
  have hP : va_P D vwCl [(aI ca q_1124 940 (fun _ => 0)), (aI ca q_1125 376 g_1301), (aI ca q_1127 752 (fun _ => 0)), (aI ca q_1128 360 (fun _ => 0)), (aI ca q_1129 45 (fun _ => 0)), (aJ ca q_1130 19 (fun _ => 0)), (aJ ca q_1131 19 (fun _ => 0)), (aJ ca q_1132 38 (fun _ => 0)), (aZ ca q_1133 2 (fun _ => 0)), (aI ca q_1135 10 (fun _ => 0)), (aZ ca q_1136 1024 (fun _ => 0)), (aI ca q_1137 64 (fun _ => 0)), (aI ca q_1138 80 (fun _ => 0)), (aI ca q_1139 4 (fun _ => 0)), (aI ca q_1140 240 (fun _ => 0)), (h0, .inr (11, [.int 0, .ref q_1124, .int 0, .int 0, .int 0, .int 0, .int 0, .int 0, .int 0, .int 0, .int 0, .int 0, .long 0, .int 0, .ref q_1125, .ref q_1126, .ref q_1127, .ref q_1128, .ref q_1129, .ref q_1130, .ref q_1131, .ref q_1132, .ref q_1133, .ref q_1134, .int 0, .int 0, .int 0, .int (-1), .int (-1), .int (-1), .ref q_1135, .int (-1), .int (-1), .ref q_1136, .int (-1), .int (-1), .ref q_1137, .int 0, .int 0, .ref q_1138, .ref q_1139, .int 0, .int 0, .ref q_1140, .int 0, .int 0, .int 0, .int 0])), (aI ca q_1126 89 u_1143), (aZ ca q_1134 2 u_1144)] H := hP
  have hD : va_D A [(aI ca q_1124 940 (fun _ => 0)), (aI ca q_1125 376 g_1301), (aI ca q_1127 752 (fun _ => 0)), (aI ca q_1128 360 (fun _ => 0)), (aI ca q_1129 45 (fun _ => 0)), (aJ ca q_1130 19 (fun _ => 0)), (aJ ca q_1131 19 (fun _ => 0)), (aJ ca q_1132 38 (fun _ => 0)), (aZ ca q_1133 2 (fun _ => 0)), (aI ca q_1135 10 (fun _ => 0)), (aZ ca q_1136 1024 (fun _ => 0)), (aI ca q_1137 64 (fun _ => 0)), (aI ca q_1138 80 (fun _ => 0)), (aI ca q_1139 4 (fun _ => 0)), (aI ca q_1140 240 (fun _ => 0)), (h0, .inr (11, [.int 0, .ref q_1124, .int 0, .int 0, .int 0, .int 0, .int 0, .int 0, .int 0, .int 0, .int 0, .int 0, .long 0, .int 0, .ref q_1125, .ref q_1126, .ref q_1127, .ref q_1128, .ref q_1129, .ref q_1130, .ref q_1131, .ref q_1132, .ref q_1133, .ref q_1134, .int 0, .int 0, .int 0, .int (-1), .int (-1), .int (-1), .ref q_1135, .int (-1), .int (-1), .ref q_1136, .int (-1), .int (-1), .ref q_1137, .int 0, .int 0, .ref q_1138, .ref q_1139, .int 0, .int 0, .ref q_1140, .int 0, .int 0, .int 0, .int 0])), (aI ca q_1126 89 u_1143), (aZ ca q_1134 2 u_1144)] := hD
  refine lv_iinc (v := 18) (lv' := [(1, .int 18), (0, .ref h0)]) hx hb dX12_init_202 hl (k := 0) rfl (by decide) (by decide) rfl (fun ls hl => ?_)
  refine lv_goto (tgt := 184) hx hb dX12_init_205 (by decide) ?_
  clear s_1294 s_1295 s_1296 s_1297 s_1298 s_1299 ex_1300 eg_1301
  refine lv_iload_n hx hb dX12_init_184 rfl (lv_at hl 0 rfl) ?_
  refine lv_bipush (v := 89) hx hb dX12_init_185 (by decide) ?_
  refine lv_icmp_ge (tgt := 208) hx hb dX12_init_187 (by decide) (fun c => absurd c (by decide)) (fun _ => ?_)
  refine lv_aload_n hx hb dX12_init_190 rfl (lv_at hl 1 rfl) ?_
  refine va_get (D := D) (ci := 11) (v := .ref q_1125) (C := RX12) (T := TX12) (N := 48) hx hb hts k6 hown hK.1 hP 15 rfl rfl 14 (by decide) k7 (fun _ h9 => h9) rfl dX12_init_191 ?_
  refine lv_iload_n hx hb dX12_init_194 rfl (lv_at hl 0 rfl) ?_
  refine lv_aload_n hx hb dX12_init_195 rfl (lv_at hl 1 rfl) ?_
  refine va_get (D := D) (ci := 11) (v := .ref q_1126) (C := RX12) (T := TX12) (N := 48) hx hb hts k6 hown hK.1 hP 15 rfl rfl 15 (by decide) k8 (fun _ h9 => h9) rfl dX12_init_196 ?_
  refine lv_iload_n hx hb dX12_init_199 rfl (lv_at hl 0 rfl) ?_
  refine va_iald hx hb hK.1 hP 16 0 rfl rfl (rg_in (⟨by decide, by decide⟩ : rg 18 18 (18 : Int32)) (by decide) (by decide)) dX12_init_200 ?_
  refine lv_topi (fun x_1309 ex_1309 => ?_)
  refine va_iast hx hb hK.1 hP hD hS 1 0 rfl rfl (rg_in (⟨by decide, by decide⟩ : rg 18 18 (18 : Int32)) (by decide) (by decide)) dX12_init_201 (fun H locs hP hD hS => ?_)
  obtain ⟨g_1310, eg_1310⟩ : ∃ y : Nat → Int32, y = upd g_1301 (18 : Int32).toNatClampNeg (x_1309 : Int32) := ⟨_, rfl⟩
  rw [← eg_1310] at hP hD
  have s_1312 : sg 19 376 0 0 g_1310 := sg_out (sg_w s_1303 (by decide) (by decide) (by decide) (by decide)) eg_1310 (⟨by decide, by decide⟩ : rg 18 18 (18 : Int32)) (by decide) (by decide)
  have s_1313 : sg 0 1 0 10 g_1310 := sg_out s_1304 eg_1310 (⟨by decide, by decide⟩ : rg 18 18 (18 : Int32)) (by decide) (by decide)
  have s_1314 : sg 1 2 0 4 g_1310 := sg_out s_1305 eg_1310 (⟨by decide, by decide⟩ : rg 18 18 (18 : Int32)) (by decide) (by decide)
  have s_1315 : sg 2 3 0 5 g_1310 := sg_out s_1306 eg_1310 (⟨by decide, by decide⟩ : rg 18 18 (18 : Int32)) (by decide) (by decide)
  have s_1316 : sg 3 4 3 3 g_1310 := sg_out s_1307 eg_1310 (⟨by decide, by decide⟩ : rg 18 18 (18 : Int32)) (by decide) (by decide)
  have s_1317 : sg 4 5 1 1 g_1310 := sg_out s_1308 eg_1310 (⟨by decide, by decide⟩ : rg 18 18 (18 : Int32)) (by decide) (by decide)
  have hP : va_P D vwCl [(aI ca q_1124 940 (fun _ => 0)), (aI ca q_1125 376 g_1310), (aI ca q_1127 752 (fun _ => 0)), (aI ca q_1128 360 (fun _ => 0)), (aI ca q_1129 45 (fun _ => 0)), (aJ ca q_1130 19 (fun _ => 0)), (aJ ca q_1131 19 (fun _ => 0)), (aJ ca q_1132 38 (fun _ => 0)), (aZ ca q_1133 2 (fun _ => 0)), (aI ca q_1135 10 (fun _ => 0)), (aZ ca q_1136 1024 (fun _ => 0)), (aI ca q_1137 64 (fun _ => 0)), (aI ca q_1138 80 (fun _ => 0)), (aI ca q_1139 4 (fun _ => 0)), (aI ca q_1140 240 (fun _ => 0)), (h0, .inr (11, [.int 0, .ref q_1124, .int 0, .int 0, .int 0, .int 0, .int 0, .int 0, .int 0, .int 0, .int 0, .int 0, .long 0, .int 0, .ref q_1125, .ref q_1126, .ref q_1127, .ref q_1128, .ref q_1129, .ref q_1130, .ref q_1131, .ref q_1132, .ref q_1133, .ref q_1134, .int 0, .int 0, .int 0, .int (-1), .int (-1), .int (-1), .ref q_1135, .int (-1), .int (-1), .ref q_1136, .int (-1), .int (-1), .ref q_1137, .int 0, .int 0, .ref q_1138, .ref q_1139, .int 0, .int 0, .ref q_1140, .int 0, .int 0, .int 0, .int 0])), (aI ca q_1126 89 u_1143), (aZ ca q_1134 2 u_1144)] H := hP
  have hD : va_D A [(aI ca q_1124 940 (fun _ => 0)), (aI ca q_1125 376 g_1310), (aI ca q_1127 752 (fun _ => 0)), (aI ca q_1128 360 (fun _ => 0)), (aI ca q_1129 45 (fun _ => 0)), (aJ ca q_1130 19 (fun _ => 0)), (aJ ca q_1131 19 (fun _ => 0)), (aJ ca q_1132 38 (fun _ => 0)), (aZ ca q_1133 2 (fun _ => 0)), (aI ca q_1135 10 (fun _ => 0)), (aZ ca q_1136 1024 (fun _ => 0)), (aI ca q_1137 64 (fun _ => 0)), (aI ca q_1138 80 (fun _ => 0)), (aI ca q_1139 4 (fun _ => 0)), (aI ca q_1140 240 (fun _ => 0)), (h0, .inr (11, [.int 0, .ref q_1124, .int 0, .int 0, .int 0, .int 0, .int 0, .int 0, .int 0, .int 0, .int 0, .int 0, .long 0, .int 0, .ref q_1125, .ref q_1126, .ref q_1127, .ref q_1128, .ref q_1129, .ref q_1130, .ref q_1131, .ref q_1132, .ref q_1133, .ref q_1134, .int 0, .int 0, .int 0, .int (-1), .int (-1), .int (-1), .ref q_1135, .int (-1), .int (-1), .ref q_1136, .int (-1), .int (-1), .ref q_1137, .int 0, .int 0, .ref q_1138, .ref q_1139, .int 0, .int 0, .ref q_1140, .int 0, .int 0, .int 0, .int 0])), (aI ca q_1126 89 u_1143), (aZ ca q_1134 2 u_1144)] := hD
  refine lv_iinc (v := 19) (lv' := [(1, .int 19), (0, .ref h0)]) hx hb dX12_init_202 hl (k := 0) rfl (by decide) (by decide) rfl (fun ls hl => ?_)
  refine lv_goto (tgt := 184) hx hb dX12_init_205 (by decide) ?_
  clear s_1303 s_1304 s_1305 s_1306 s_1307 s_1308 ex_1309 eg_1310
  refine lv_iload_n hx hb dX12_init_184 rfl (lv_at hl 0 rfl) ?_
  refine lv_bipush (v := 89) hx hb dX12_init_185 (by decide) ?_
  refine lv_icmp_ge (tgt := 208) hx hb dX12_init_187 (by decide) (fun c => absurd c (by decide)) (fun _ => ?_)
  refine lv_aload_n hx hb dX12_init_190 rfl (lv_at hl 1 rfl) ?_
  refine va_get (D := D) (ci := 11) (v := .ref q_1125) (C := RX12) (T := TX12) (N := 48) hx hb hts k6 hown hK.1 hP 15 rfl rfl 14 (by decide) k7 (fun _ h9 => h9) rfl dX12_init_191 ?_
  refine lv_iload_n hx hb dX12_init_194 rfl (lv_at hl 0 rfl) ?_
  refine lv_aload_n hx hb dX12_init_195 rfl (lv_at hl 1 rfl) ?_
  refine va_get (D := D) (ci := 11) (v := .ref q_1126) (C := RX12) (T := TX12) (N := 48) hx hb hts k6 hown hK.1 hP 15 rfl rfl 15 (by decide) k8 (fun _ h9 => h9) rfl dX12_init_196 ?_
  refine lv_iload_n hx hb dX12_init_199 rfl (lv_at hl 0 rfl) ?_
  refine va_iald hx hb hK.1 hP 16 0 rfl rfl (rg_in (⟨by decide, by decide⟩ : rg 19 19 (19 : Int32)) (by decide) (by decide)) dX12_init_200 ?_
  refine lv_topi (fun x_1318 ex_1318 => ?_)
  refine va_iast hx hb hK.1 hP hD hS 1 0 rfl rfl (rg_in (⟨by decide, by decide⟩ : rg 19 19 (19 : Int32)) (by decide) (by decide)) dX12_init_201 (fun H locs hP hD hS => ?_)
  obtain ⟨g_1319, eg_1319⟩ : ∃ y : Nat → Int32, y = upd g_1310 (19 : Int32).toNatClampNeg (x_1318 : Int32) := ⟨_, rfl⟩
  rw [← eg_1319] at hP hD
  have s_1321 : sg 20 376 0 0 g_1319 := sg_out (sg_w s_1312 (by decide) (by decide) (by decide) (by decide)) eg_1319 (⟨by decide, by decide⟩ : rg 19 19 (19 : Int32)) (by decide) (by decide)
  have s_1322 : sg 0 1 0 10 g_1319 := sg_out s_1313 eg_1319 (⟨by decide, by decide⟩ : rg 19 19 (19 : Int32)) (by decide) (by decide)
  have s_1323 : sg 1 2 0 4 g_1319 := sg_out s_1314 eg_1319 (⟨by decide, by decide⟩ : rg 19 19 (19 : Int32)) (by decide) (by decide)
  have s_1324 : sg 2 3 0 5 g_1319 := sg_out s_1315 eg_1319 (⟨by decide, by decide⟩ : rg 19 19 (19 : Int32)) (by decide) (by decide)
  have s_1325 : sg 3 4 3 3 g_1319 := sg_out s_1316 eg_1319 (⟨by decide, by decide⟩ : rg 19 19 (19 : Int32)) (by decide) (by decide)
  have s_1326 : sg 4 5 1 1 g_1319 := sg_out s_1317 eg_1319 (⟨by decide, by decide⟩ : rg 19 19 (19 : Int32)) (by decide) (by decide)
  have hP : va_P D vwCl [(aI ca q_1124 940 (fun _ => 0)), (aI ca q_1125 376 g_1319), (aI ca q_1127 752 (fun _ => 0)), (aI ca q_1128 360 (fun _ => 0)), (aI ca q_1129 45 (fun _ => 0)), (aJ ca q_1130 19 (fun _ => 0)), (aJ ca q_1131 19 (fun _ => 0)), (aJ ca q_1132 38 (fun _ => 0)), (aZ ca q_1133 2 (fun _ => 0)), (aI ca q_1135 10 (fun _ => 0)), (aZ ca q_1136 1024 (fun _ => 0)), (aI ca q_1137 64 (fun _ => 0)), (aI ca q_1138 80 (fun _ => 0)), (aI ca q_1139 4 (fun _ => 0)), (aI ca q_1140 240 (fun _ => 0)), (h0, .inr (11, [.int 0, .ref q_1124, .int 0, .int 0, .int 0, .int 0, .int 0, .int 0, .int 0, .int 0, .int 0, .int 0, .long 0, .int 0, .ref q_1125, .ref q_1126, .ref q_1127, .ref q_1128, .ref q_1129, .ref q_1130, .ref q_1131, .ref q_1132, .ref q_1133, .ref q_1134, .int 0, .int 0, .int 0, .int (-1), .int (-1), .int (-1), .ref q_1135, .int (-1), .int (-1), .ref q_1136, .int (-1), .int (-1), .ref q_1137, .int 0, .int 0, .ref q_1138, .ref q_1139, .int 0, .int 0, .ref q_1140, .int 0, .int 0, .int 0, .int 0])), (aI ca q_1126 89 u_1143), (aZ ca q_1134 2 u_1144)] H := hP
  have hD : va_D A [(aI ca q_1124 940 (fun _ => 0)), (aI ca q_1125 376 g_1319), (aI ca q_1127 752 (fun _ => 0)), (aI ca q_1128 360 (fun _ => 0)), (aI ca q_1129 45 (fun _ => 0)), (aJ ca q_1130 19 (fun _ => 0)), (aJ ca q_1131 19 (fun _ => 0)), (aJ ca q_1132 38 (fun _ => 0)), (aZ ca q_1133 2 (fun _ => 0)), (aI ca q_1135 10 (fun _ => 0)), (aZ ca q_1136 1024 (fun _ => 0)), (aI ca q_1137 64 (fun _ => 0)), (aI ca q_1138 80 (fun _ => 0)), (aI ca q_1139 4 (fun _ => 0)), (aI ca q_1140 240 (fun _ => 0)), (h0, .inr (11, [.int 0, .ref q_1124, .int 0, .int 0, .int 0, .int 0, .int 0, .int 0, .int 0, .int 0, .int 0, .int 0, .long 0, .int 0, .ref q_1125, .ref q_1126, .ref q_1127, .ref q_1128, .ref q_1129, .ref q_1130, .ref q_1131, .ref q_1132, .ref q_1133, .ref q_1134, .int 0, .int 0, .int 0, .int (-1), .int (-1), .int (-1), .ref q_1135, .int (-1), .int (-1), .ref q_1136, .int (-1), .int (-1), .ref q_1137, .int 0, .int 0, .ref q_1138, .ref q_1139, .int 0, .int 0, .ref q_1140, .int 0, .int 0, .int 0, .int 0])), (aI ca q_1126 89 u_1143), (aZ ca q_1134 2 u_1144)] := hD
  refine lv_iinc (v := 20) (lv' := [(1, .int 20), (0, .ref h0)]) hx hb dX12_init_202 hl (k := 0) rfl (by decide) (by decide) rfl (fun ls hl => ?_)
  refine lv_goto (tgt := 184) hx hb dX12_init_205 (by decide) ?_
  clear s_1312 s_1313 s_1314 s_1315 s_1316 s_1317 ex_1318 eg_1319
  refine lv_iload_n hx hb dX12_init_184 rfl (lv_at hl 0 rfl) ?_
  refine lv_bipush (v := 89) hx hb dX12_init_185 (by decide) ?_
  refine lv_icmp_ge (tgt := 208) hx hb dX12_init_187 (by decide) (fun c => absurd c (by decide)) (fun _ => ?_)
  refine lv_aload_n hx hb dX12_init_190 rfl (lv_at hl 1 rfl) ?_
  refine va_get (D := D) (ci := 11) (v := .ref q_1125) (C := RX12) (T := TX12) (N := 48) hx hb hts k6 hown hK.1 hP 15 rfl rfl 14 (by decide) k7 (fun _ h9 => h9) rfl dX12_init_191 ?_
  refine lv_iload_n hx hb dX12_init_194 rfl (lv_at hl 0 rfl) ?_
  refine lv_aload_n hx hb dX12_init_195 rfl (lv_at hl 1 rfl) ?_
  refine va_get (D := D) (ci := 11) (v := .ref q_1126) (C := RX12) (T := TX12) (N := 48) hx hb hts k6 hown hK.1 hP 15 rfl rfl 15 (by decide) k8 (fun _ h9 => h9) rfl dX12_init_196 ?_
  refine lv_iload_n hx hb dX12_init_199 rfl (lv_at hl 0 rfl) ?_
  refine va_iald hx hb hK.1 hP 16 0 rfl rfl (rg_in (⟨by decide, by decide⟩ : rg 20 20 (20 : Int32)) (by decide) (by decide)) dX12_init_200 ?_
  refine lv_topi (fun x_1327 ex_1327 => ?_)
  refine va_iast hx hb hK.1 hP hD hS 1 0 rfl rfl (rg_in (⟨by decide, by decide⟩ : rg 20 20 (20 : Int32)) (by decide) (by decide)) dX12_init_201 (fun H locs hP hD hS => ?_)
  obtain ⟨g_1328, eg_1328⟩ : ∃ y : Nat → Int32, y = upd g_1319 (20 : Int32).toNatClampNeg (x_1327 : Int32) := ⟨_, rfl⟩
  rw [← eg_1328] at hP hD
  have s_1330 : sg 21 376 0 0 g_1328 := sg_out (sg_w s_1321 (by decide) (by decide) (by decide) (by decide)) eg_1328 (⟨by decide, by decide⟩ : rg 20 20 (20 : Int32)) (by decide) (by decide)
  have s_1331 : sg 0 1 0 10 g_1328 := sg_out s_1322 eg_1328 (⟨by decide, by decide⟩ : rg 20 20 (20 : Int32)) (by decide) (by decide)
  have s_1332 : sg 1 2 0 4 g_1328 := sg_out s_1323 eg_1328 (⟨by decide, by decide⟩ : rg 20 20 (20 : Int32)) (by decide) (by decide)
  have s_1333 : sg 2 3 0 5 g_1328 := sg_out s_1324 eg_1328 (⟨by decide, by decide⟩ : rg 20 20 (20 : Int32)) (by decide) (by decide)
  have s_1334 : sg 3 4 3 3 g_1328 := sg_out s_1325 eg_1328 (⟨by decide, by decide⟩ : rg 20 20 (20 : Int32)) (by decide) (by decide)
  have s_1335 : sg 4 5 1 1 g_1328 := sg_out s_1326 eg_1328 (⟨by decide, by decide⟩ : rg 20 20 (20 : Int32)) (by decide) (by decide)
  have hP : va_P D vwCl [(aI ca q_1124 940 (fun _ => 0)), (aI ca q_1125 376 g_1328), (aI ca q_1127 752 (fun _ => 0)), (aI ca q_1128 360 (fun _ => 0)), (aI ca q_1129 45 (fun _ => 0)), (aJ ca q_1130 19 (fun _ => 0)), (aJ ca q_1131 19 (fun _ => 0)), (aJ ca q_1132 38 (fun _ => 0)), (aZ ca q_1133 2 (fun _ => 0)), (aI ca q_1135 10 (fun _ => 0)), (aZ ca q_1136 1024 (fun _ => 0)), (aI ca q_1137 64 (fun _ => 0)), (aI ca q_1138 80 (fun _ => 0)), (aI ca q_1139 4 (fun _ => 0)), (aI ca q_1140 240 (fun _ => 0)), (h0, .inr (11, [.int 0, .ref q_1124, .int 0, .int 0, .int 0, .int 0, .int 0, .int 0, .int 0, .int 0, .int 0, .int 0, .long 0, .int 0, .ref q_1125, .ref q_1126, .ref q_1127, .ref q_1128, .ref q_1129, .ref q_1130, .ref q_1131, .ref q_1132, .ref q_1133, .ref q_1134, .int 0, .int 0, .int 0, .int (-1), .int (-1), .int (-1), .ref q_1135, .int (-1), .int (-1), .ref q_1136, .int (-1), .int (-1), .ref q_1137, .int 0, .int 0, .ref q_1138, .ref q_1139, .int 0, .int 0, .ref q_1140, .int 0, .int 0, .int 0, .int 0])), (aI ca q_1126 89 u_1143), (aZ ca q_1134 2 u_1144)] H := hP
  have hD : va_D A [(aI ca q_1124 940 (fun _ => 0)), (aI ca q_1125 376 g_1328), (aI ca q_1127 752 (fun _ => 0)), (aI ca q_1128 360 (fun _ => 0)), (aI ca q_1129 45 (fun _ => 0)), (aJ ca q_1130 19 (fun _ => 0)), (aJ ca q_1131 19 (fun _ => 0)), (aJ ca q_1132 38 (fun _ => 0)), (aZ ca q_1133 2 (fun _ => 0)), (aI ca q_1135 10 (fun _ => 0)), (aZ ca q_1136 1024 (fun _ => 0)), (aI ca q_1137 64 (fun _ => 0)), (aI ca q_1138 80 (fun _ => 0)), (aI ca q_1139 4 (fun _ => 0)), (aI ca q_1140 240 (fun _ => 0)), (h0, .inr (11, [.int 0, .ref q_1124, .int 0, .int 0, .int 0, .int 0, .int 0, .int 0, .int 0, .int 0, .int 0, .int 0, .long 0, .int 0, .ref q_1125, .ref q_1126, .ref q_1127, .ref q_1128, .ref q_1129, .ref q_1130, .ref q_1131, .ref q_1132, .ref q_1133, .ref q_1134, .int 0, .int 0, .int 0, .int (-1), .int (-1), .int (-1), .ref q_1135, .int (-1), .int (-1), .ref q_1136, .int (-1), .int (-1), .ref q_1137, .int 0, .int 0, .ref q_1138, .ref q_1139, .int 0, .int 0, .ref q_1140, .int 0, .int 0, .int 0, .int 0])), (aI ca q_1126 89 u_1143), (aZ ca q_1134 2 u_1144)] := hD
  refine lv_iinc (v := 21) (lv' := [(1, .int 21), (0, .ref h0)]) hx hb dX12_init_202 hl (k := 0) rfl (by decide) (by decide) rfl (fun ls hl => ?_)
  refine lv_goto (tgt := 184) hx hb dX12_init_205 (by decide) ?_
  clear s_1321 s_1322 s_1323 s_1324 s_1325 s_1326 ex_1327 eg_1328
  refine lv_iload_n hx hb dX12_init_184 rfl (lv_at hl 0 rfl) ?_
  refine lv_bipush (v := 89) hx hb dX12_init_185 (by decide) ?_
  refine lv_icmp_ge (tgt := 208) hx hb dX12_init_187 (by decide) (fun c => absurd c (by decide)) (fun _ => ?_)
  refine lv_aload_n hx hb dX12_init_190 rfl (lv_at hl 1 rfl) ?_
  refine va_get (D := D) (ci := 11) (v := .ref q_1125) (C := RX12) (T := TX12) (N := 48) hx hb hts k6 hown hK.1 hP 15 rfl rfl 14 (by decide) k7 (fun _ h9 => h9) rfl dX12_init_191 ?_
  refine lv_iload_n hx hb dX12_init_194 rfl (lv_at hl 0 rfl) ?_
  refine lv_aload_n hx hb dX12_init_195 rfl (lv_at hl 1 rfl) ?_
  refine va_get (D := D) (ci := 11) (v := .ref q_1126) (C := RX12) (T := TX12) (N := 48) hx hb hts k6 hown hK.1 hP 15 rfl rfl 15 (by decide) k8 (fun _ h9 => h9) rfl dX12_init_196 ?_
  refine lv_iload_n hx hb dX12_init_199 rfl (lv_at hl 0 rfl) ?_
  refine va_iald hx hb hK.1 hP 16 0 rfl rfl (rg_in (⟨by decide, by decide⟩ : rg 21 21 (21 : Int32)) (by decide) (by decide)) dX12_init_200 ?_
  refine lv_topi (fun x_1336 ex_1336 => ?_)
  refine va_iast hx hb hK.1 hP hD hS 1 0 rfl rfl (rg_in (⟨by decide, by decide⟩ : rg 21 21 (21 : Int32)) (by decide) (by decide)) dX12_init_201 (fun H locs hP hD hS => ?_)
  obtain ⟨g_1337, eg_1337⟩ : ∃ y : Nat → Int32, y = upd g_1328 (21 : Int32).toNatClampNeg (x_1336 : Int32) := ⟨_, rfl⟩
  rw [← eg_1337] at hP hD
  have s_1339 : sg 22 376 0 0 g_1337 := sg_out (sg_w s_1330 (by decide) (by decide) (by decide) (by decide)) eg_1337 (⟨by decide, by decide⟩ : rg 21 21 (21 : Int32)) (by decide) (by decide)
  have s_1340 : sg 0 1 0 10 g_1337 := sg_out s_1331 eg_1337 (⟨by decide, by decide⟩ : rg 21 21 (21 : Int32)) (by decide) (by decide)
  have s_1341 : sg 1 2 0 4 g_1337 := sg_out s_1332 eg_1337 (⟨by decide, by decide⟩ : rg 21 21 (21 : Int32)) (by decide) (by decide)
  have s_1342 : sg 2 3 0 5 g_1337 := sg_out s_1333 eg_1337 (⟨by decide, by decide⟩ : rg 21 21 (21 : Int32)) (by decide) (by decide)
  have s_1343 : sg 3 4 3 3 g_1337 := sg_out s_1334 eg_1337 (⟨by decide, by decide⟩ : rg 21 21 (21 : Int32)) (by decide) (by decide)
  have s_1344 : sg 4 5 1 1 g_1337 := sg_out s_1335 eg_1337 (⟨by decide, by decide⟩ : rg 21 21 (21 : Int32)) (by decide) (by decide)
  have hP : va_P D vwCl [(aI ca q_1124 940 (fun _ => 0)), (aI ca q_1125 376 g_1337), (aI ca q_1127 752 (fun _ => 0)), (aI ca q_1128 360 (fun _ => 0)), (aI ca q_1129 45 (fun _ => 0)), (aJ ca q_1130 19 (fun _ => 0)), (aJ ca q_1131 19 (fun _ => 0)), (aJ ca q_1132 38 (fun _ => 0)), (aZ ca q_1133 2 (fun _ => 0)), (aI ca q_1135 10 (fun _ => 0)), (aZ ca q_1136 1024 (fun _ => 0)), (aI ca q_1137 64 (fun _ => 0)), (aI ca q_1138 80 (fun _ => 0)), (aI ca q_1139 4 (fun _ => 0)), (aI ca q_1140 240 (fun _ => 0)), (h0, .inr (11, [.int 0, .ref q_1124, .int 0, .int 0, .int 0, .int 0, .int 0, .int 0, .int 0, .int 0, .int 0, .int 0, .long 0, .int 0, .ref q_1125, .ref q_1126, .ref q_1127, .ref q_1128, .ref q_1129, .ref q_1130, .ref q_1131, .ref q_1132, .ref q_1133, .ref q_1134, .int 0, .int 0, .int 0, .int (-1), .int (-1), .int (-1), .ref q_1135, .int (-1), .int (-1), .ref q_1136, .int (-1), .int (-1), .ref q_1137, .int 0, .int 0, .ref q_1138, .ref q_1139, .int 0, .int 0, .ref q_1140, .int 0, .int 0, .int 0, .int 0])), (aI ca q_1126 89 u_1143), (aZ ca q_1134 2 u_1144)] H := hP
  have hD : va_D A [(aI ca q_1124 940 (fun _ => 0)), (aI ca q_1125 376 g_1337), (aI ca q_1127 752 (fun _ => 0)), (aI ca q_1128 360 (fun _ => 0)), (aI ca q_1129 45 (fun _ => 0)), (aJ ca q_1130 19 (fun _ => 0)), (aJ ca q_1131 19 (fun _ => 0)), (aJ ca q_1132 38 (fun _ => 0)), (aZ ca q_1133 2 (fun _ => 0)), (aI ca q_1135 10 (fun _ => 0)), (aZ ca q_1136 1024 (fun _ => 0)), (aI ca q_1137 64 (fun _ => 0)), (aI ca q_1138 80 (fun _ => 0)), (aI ca q_1139 4 (fun _ => 0)), (aI ca q_1140 240 (fun _ => 0)), (h0, .inr (11, [.int 0, .ref q_1124, .int 0, .int 0, .int 0, .int 0, .int 0, .int 0, .int 0, .int 0, .int 0, .int 0, .long 0, .int 0, .ref q_1125, .ref q_1126, .ref q_1127, .ref q_1128, .ref q_1129, .ref q_1130, .ref q_1131, .ref q_1132, .ref q_1133, .ref q_1134, .int 0, .int 0, .int 0, .int (-1), .int (-1), .int (-1), .ref q_1135, .int (-1), .int (-1), .ref q_1136, .int (-1), .int (-1), .ref q_1137, .int 0, .int 0, .ref q_1138, .ref q_1139, .int 0, .int 0, .ref q_1140, .int 0, .int 0, .int 0, .int 0])), (aI ca q_1126 89 u_1143), (aZ ca q_1134 2 u_1144)] := hD
  refine lv_iinc (v := 22) (lv' := [(1, .int 22), (0, .ref h0)]) hx hb dX12_init_202 hl (k := 0) rfl (by decide) (by decide) rfl (fun ls hl => ?_)
  refine lv_goto (tgt := 184) hx hb dX12_init_205 (by decide) ?_
  clear s_1330 s_1331 s_1332 s_1333 s_1334 s_1335 ex_1336 eg_1337
  refine lv_iload_n hx hb dX12_init_184 rfl (lv_at hl 0 rfl) ?_
  refine lv_bipush (v := 89) hx hb dX12_init_185 (by decide) ?_
  refine lv_icmp_ge (tgt := 208) hx hb dX12_init_187 (by decide) (fun c => absurd c (by decide)) (fun _ => ?_)
  refine lv_aload_n hx hb dX12_init_190 rfl (lv_at hl 1 rfl) ?_
  refine va_get (D := D) (ci := 11) (v := .ref q_1125) (C := RX12) (T := TX12) (N := 48) hx hb hts k6 hown hK.1 hP 15 rfl rfl 14 (by decide) k7 (fun _ h9 => h9) rfl dX12_init_191 ?_
  refine lv_iload_n hx hb dX12_init_194 rfl (lv_at hl 0 rfl) ?_
  refine lv_aload_n hx hb dX12_init_195 rfl (lv_at hl 1 rfl) ?_
  refine va_get (D := D) (ci := 11) (v := .ref q_1126) (C := RX12) (T := TX12) (N := 48) hx hb hts k6 hown hK.1 hP 15 rfl rfl 15 (by decide) k8 (fun _ h9 => h9) rfl dX12_init_196 ?_
  refine lv_iload_n hx hb dX12_init_199 rfl (lv_at hl 0 rfl) ?_
  refine va_iald hx hb hK.1 hP 16 0 rfl rfl (rg_in (⟨by decide, by decide⟩ : rg 22 22 (22 : Int32)) (by decide) (by decide)) dX12_init_200 ?_
  refine lv_topi (fun x_1345 ex_1345 => ?_)
  refine va_iast hx hb hK.1 hP hD hS 1 0 rfl rfl (rg_in (⟨by decide, by decide⟩ : rg 22 22 (22 : Int32)) (by decide) (by decide)) dX12_init_201 (fun H locs hP hD hS => ?_)
  obtain ⟨g_1346, eg_1346⟩ : ∃ y : Nat → Int32, y = upd g_1337 (22 : Int32).toNatClampNeg (x_1345 : Int32) := ⟨_, rfl⟩
  rw [← eg_1346] at hP hD
  have s_1348 : sg 23 376 0 0 g_1346 := sg_out (sg_w s_1339 (by decide) (by decide) (by decide) (by decide)) eg_1346 (⟨by decide, by decide⟩ : rg 22 22 (22 : Int32)) (by decide) (by decide)
  have s_1349 : sg 0 1 0 10 g_1346 := sg_out s_1340 eg_1346 (⟨by decide, by decide⟩ : rg 22 22 (22 : Int32)) (by decide) (by decide)
  have s_1350 : sg 1 2 0 4 g_1346 := sg_out s_1341 eg_1346 (⟨by decide, by decide⟩ : rg 22 22 (22 : Int32)) (by decide) (by decide)
  have s_1351 : sg 2 3 0 5 g_1346 := sg_out s_1342 eg_1346 (⟨by decide, by decide⟩ : rg 22 22 (22 : Int32)) (by decide) (by decide)
  have s_1352 : sg 3 4 3 3 g_1346 := sg_out s_1343 eg_1346 (⟨by decide, by decide⟩ : rg 22 22 (22 : Int32)) (by decide) (by decide)
  have s_1353 : sg 4 5 1 1 g_1346 := sg_out s_1344 eg_1346 (⟨by decide, by decide⟩ : rg 22 22 (22 : Int32)) (by decide) (by decide)
  have hP : va_P D vwCl [(aI ca q_1124 940 (fun _ => 0)), (aI ca q_1125 376 g_1346), (aI ca q_1127 752 (fun _ => 0)), (aI ca q_1128 360 (fun _ => 0)), (aI ca q_1129 45 (fun _ => 0)), (aJ ca q_1130 19 (fun _ => 0)), (aJ ca q_1131 19 (fun _ => 0)), (aJ ca q_1132 38 (fun _ => 0)), (aZ ca q_1133 2 (fun _ => 0)), (aI ca q_1135 10 (fun _ => 0)), (aZ ca q_1136 1024 (fun _ => 0)), (aI ca q_1137 64 (fun _ => 0)), (aI ca q_1138 80 (fun _ => 0)), (aI ca q_1139 4 (fun _ => 0)), (aI ca q_1140 240 (fun _ => 0)), (h0, .inr (11, [.int 0, .ref q_1124, .int 0, .int 0, .int 0, .int 0, .int 0, .int 0, .int 0, .int 0, .int 0, .int 0, .long 0, .int 0, .ref q_1125, .ref q_1126, .ref q_1127, .ref q_1128, .ref q_1129, .ref q_1130, .ref q_1131, .ref q_1132, .ref q_1133, .ref q_1134, .int 0, .int 0, .int 0, .int (-1), .int (-1), .int (-1), .ref q_1135, .int (-1), .int (-1), .ref q_1136, .int (-1), .int (-1), .ref q_1137, .int 0, .int 0, .ref q_1138, .ref q_1139, .int 0, .int 0, .ref q_1140, .int 0, .int 0, .int 0, .int 0])), (aI ca q_1126 89 u_1143), (aZ ca q_1134 2 u_1144)] H := hP
  have hD : va_D A [(aI ca q_1124 940 (fun _ => 0)), (aI ca q_1125 376 g_1346), (aI ca q_1127 752 (fun _ => 0)), (aI ca q_1128 360 (fun _ => 0)), (aI ca q_1129 45 (fun _ => 0)), (aJ ca q_1130 19 (fun _ => 0)), (aJ ca q_1131 19 (fun _ => 0)), (aJ ca q_1132 38 (fun _ => 0)), (aZ ca q_1133 2 (fun _ => 0)), (aI ca q_1135 10 (fun _ => 0)), (aZ ca q_1136 1024 (fun _ => 0)), (aI ca q_1137 64 (fun _ => 0)), (aI ca q_1138 80 (fun _ => 0)), (aI ca q_1139 4 (fun _ => 0)), (aI ca q_1140 240 (fun _ => 0)), (h0, .inr (11, [.int 0, .ref q_1124, .int 0, .int 0, .int 0, .int 0, .int 0, .int 0, .int 0, .int 0, .int 0, .int 0, .long 0, .int 0, .ref q_1125, .ref q_1126, .ref q_1127, .ref q_1128, .ref q_1129, .ref q_1130, .ref q_1131, .ref q_1132, .ref q_1133, .ref q_1134, .int 0, .int 0, .int 0, .int (-1), .int (-1), .int (-1), .ref q_1135, .int (-1), .int (-1), .ref q_1136, .int (-1), .int (-1), .ref q_1137, .int 0, .int 0, .ref q_1138, .ref q_1139, .int 0, .int 0, .ref q_1140, .int 0, .int 0, .int 0, .int 0])), (aI ca q_1126 89 u_1143), (aZ ca q_1134 2 u_1144)] := hD
  refine lv_iinc (v := 23) (lv' := [(1, .int 23), (0, .ref h0)]) hx hb dX12_init_202 hl (k := 0) rfl (by decide) (by decide) rfl (fun ls hl => ?_)
  refine lv_goto (tgt := 184) hx hb dX12_init_205 (by decide) ?_
  clear s_1339 s_1340 s_1341 s_1342 s_1343 s_1344 ex_1345 eg_1346
  refine lv_iload_n hx hb dX12_init_184 rfl (lv_at hl 0 rfl) ?_
  refine lv_bipush (v := 89) hx hb dX12_init_185 (by decide) ?_
  refine lv_icmp_ge (tgt := 208) hx hb dX12_init_187 (by decide) (fun c => absurd c (by decide)) (fun _ => ?_)
  refine lv_aload_n hx hb dX12_init_190 rfl (lv_at hl 1 rfl) ?_
  refine va_get (D := D) (ci := 11) (v := .ref q_1125) (C := RX12) (T := TX12) (N := 48) hx hb hts k6 hown hK.1 hP 15 rfl rfl 14 (by decide) k7 (fun _ h9 => h9) rfl dX12_init_191 ?_
  refine lv_iload_n hx hb dX12_init_194 rfl (lv_at hl 0 rfl) ?_
  refine lv_aload_n hx hb dX12_init_195 rfl (lv_at hl 1 rfl) ?_
  refine va_get (D := D) (ci := 11) (v := .ref q_1126) (C := RX12) (T := TX12) (N := 48) hx hb hts k6 hown hK.1 hP 15 rfl rfl 15 (by decide) k8 (fun _ h9 => h9) rfl dX12_init_196 ?_
  refine lv_iload_n hx hb dX12_init_199 rfl (lv_at hl 0 rfl) ?_
  refine va_iald hx hb hK.1 hP 16 0 rfl rfl (rg_in (⟨by decide, by decide⟩ : rg 23 23 (23 : Int32)) (by decide) (by decide)) dX12_init_200 ?_
  refine lv_topi (fun x_1354 ex_1354 => ?_)
  refine va_iast hx hb hK.1 hP hD hS 1 0 rfl rfl (rg_in (⟨by decide, by decide⟩ : rg 23 23 (23 : Int32)) (by decide) (by decide)) dX12_init_201 (fun H locs hP hD hS => ?_)
  obtain ⟨g_1355, eg_1355⟩ : ∃ y : Nat → Int32, y = upd g_1346 (23 : Int32).toNatClampNeg (x_1354 : Int32) := ⟨_, rfl⟩
  rw [← eg_1355] at hP hD
  have s_1357 : sg 24 376 0 0 g_1355 := sg_out (sg_w s_1348 (by decide) (by decide) (by decide) (by decide)) eg_1355 (⟨by decide, by decide⟩ : rg 23 23 (23 : Int32)) (by decide) (by decide)
  have s_1358 : sg 0 1 0 10 g_1355 := sg_out s_1349 eg_1355 (⟨by decide, by decide⟩ : rg 23 23 (23 : Int32)) (by decide) (by decide)
  have s_1359 : sg 1 2 0 4 g_1355 := sg_out s_1350 eg_1355 (⟨by decide, by decide⟩ : rg 23 23 (23 : Int32)) (by decide) (by decide)
  have s_1360 : sg 2 3 0 5 g_1355 := sg_out s_1351 eg_1355 (⟨by decide, by decide⟩ : rg 23 23 (23 : Int32)) (by decide) (by decide)
  have s_1361 : sg 3 4 3 3 g_1355 := sg_out s_1352 eg_1355 (⟨by decide, by decide⟩ : rg 23 23 (23 : Int32)) (by decide) (by decide)
  have s_1362 : sg 4 5 1 1 g_1355 := sg_out s_1353 eg_1355 (⟨by decide, by decide⟩ : rg 23 23 (23 : Int32)) (by decide) (by decide)
  have hP : va_P D vwCl [(aI ca q_1124 940 (fun _ => 0)), (aI ca q_1125 376 g_1355), (aI ca q_1127 752 (fun _ => 0)), (aI ca q_1128 360 (fun _ => 0)), (aI ca q_1129 45 (fun _ => 0)), (aJ ca q_1130 19 (fun _ => 0)), (aJ ca q_1131 19 (fun _ => 0)), (aJ ca q_1132 38 (fun _ => 0)), (aZ ca q_1133 2 (fun _ => 0)), (aI ca q_1135 10 (fun _ => 0)), (aZ ca q_1136 1024 (fun _ => 0)), (aI ca q_1137 64 (fun _ => 0)), (aI ca q_1138 80 (fun _ => 0)), (aI ca q_1139 4 (fun _ => 0)), (aI ca q_1140 240 (fun _ => 0)), (h0, .inr (11, [.int 0, .ref q_1124, .int 0, .int 0, .int 0, .int 0, .int 0, .int 0, .int 0, .int 0, .int 0, .int 0, .long 0, .int 0, .ref q_1125, .ref q_1126, .ref q_1127, .ref q_1128, .ref q_1129, .ref q_1130, .ref q_1131, .ref q_1132, .ref q_1133, .ref q_1134, .int 0, .int 0, .int 0, .int (-1), .int (-1), .int (-1), .ref q_1135, .int (-1), .int (-1), .ref q_1136, .int (-1), .int (-1), .ref q_1137, .int 0, .int 0, .ref q_1138, .ref q_1139, .int 0, .int 0, .ref q_1140, .int 0, .int 0, .int 0, .int 0])), (aI ca q_1126 89 u_1143), (aZ ca q_1134 2 u_1144)] H := hP
  have hD : va_D A [(aI ca q_1124 940 (fun _ => 0)), (aI ca q_1125 376 g_1355), (aI ca q_1127 752 (fun _ => 0)), (aI ca q_1128 360 (fun _ => 0)), (aI ca q_1129 45 (fun _ => 0)), (aJ ca q_1130 19 (fun _ => 0)), (aJ ca q_1131 19 (fun _ => 0)), (aJ ca q_1132 38 (fun _ => 0)), (aZ ca q_1133 2 (fun _ => 0)), (aI ca q_1135 10 (fun _ => 0)), (aZ ca q_1136 1024 (fun _ => 0)), (aI ca q_1137 64 (fun _ => 0)), (aI ca q_1138 80 (fun _ => 0)), (aI ca q_1139 4 (fun _ => 0)), (aI ca q_1140 240 (fun _ => 0)), (h0, .inr (11, [.int 0, .ref q_1124, .int 0, .int 0, .int 0, .int 0, .int 0, .int 0, .int 0, .int 0, .int 0, .int 0, .long 0, .int 0, .ref q_1125, .ref q_1126, .ref q_1127, .ref q_1128, .ref q_1129, .ref q_1130, .ref q_1131, .ref q_1132, .ref q_1133, .ref q_1134, .int 0, .int 0, .int 0, .int (-1), .int (-1), .int (-1), .ref q_1135, .int (-1), .int (-1), .ref q_1136, .int (-1), .int (-1), .ref q_1137, .int 0, .int 0, .ref q_1138, .ref q_1139, .int 0, .int 0, .ref q_1140, .int 0, .int 0, .int 0, .int 0])), (aI ca q_1126 89 u_1143), (aZ ca q_1134 2 u_1144)] := hD
  refine lv_iinc (v := 24) (lv' := [(1, .int 24), (0, .ref h0)]) hx hb dX12_init_202 hl (k := 0) rfl (by decide) (by decide) rfl (fun ls hl => ?_)
  refine lv_goto (tgt := 184) hx hb dX12_init_205 (by decide) ?_
  clear s_1348 s_1349 s_1350 s_1351 s_1352 s_1353 ex_1354 eg_1355
  refine lv_iload_n hx hb dX12_init_184 rfl (lv_at hl 0 rfl) ?_
  refine lv_bipush (v := 89) hx hb dX12_init_185 (by decide) ?_
  refine lv_icmp_ge (tgt := 208) hx hb dX12_init_187 (by decide) (fun c => absurd c (by decide)) (fun _ => ?_)
  refine lv_aload_n hx hb dX12_init_190 rfl (lv_at hl 1 rfl) ?_
  refine va_get (D := D) (ci := 11) (v := .ref q_1125) (C := RX12) (T := TX12) (N := 48) hx hb hts k6 hown hK.1 hP 15 rfl rfl 14 (by decide) k7 (fun _ h9 => h9) rfl dX12_init_191 ?_
  refine lv_iload_n hx hb dX12_init_194 rfl (lv_at hl 0 rfl) ?_
  refine lv_aload_n hx hb dX12_init_195 rfl (lv_at hl 1 rfl) ?_
  refine va_get (D := D) (ci := 11) (v := .ref q_1126) (C := RX12) (T := TX12) (N := 48) hx hb hts k6 hown hK.1 hP 15 rfl rfl 15 (by decide) k8 (fun _ h9 => h9) rfl dX12_init_196 ?_
  refine lv_iload_n hx hb dX12_init_199 rfl (lv_at hl 0 rfl) ?_
  refine va_iald hx hb hK.1 hP 16 0 rfl rfl (rg_in (⟨by decide, by decide⟩ : rg 24 24 (24 : Int32)) (by decide) (by decide)) dX12_init_200 ?_
  refine lv_topi (fun x_1363 ex_1363 => ?_)
  refine va_iast hx hb hK.1 hP hD hS 1 0 rfl rfl (rg_in (⟨by decide, by decide⟩ : rg 24 24 (24 : Int32)) (by decide) (by decide)) dX12_init_201 (fun H locs hP hD hS => ?_)
  obtain ⟨g_1364, eg_1364⟩ : ∃ y : Nat → Int32, y = upd g_1355 (24 : Int32).toNatClampNeg (x_1363 : Int32) := ⟨_, rfl⟩
  rw [← eg_1364] at hP hD
  have s_1366 : sg 25 376 0 0 g_1364 := sg_out (sg_w s_1357 (by decide) (by decide) (by decide) (by decide)) eg_1364 (⟨by decide, by decide⟩ : rg 24 24 (24 : Int32)) (by decide) (by decide)
  have s_1367 : sg 0 1 0 10 g_1364 := sg_out s_1358 eg_1364 (⟨by decide, by decide⟩ : rg 24 24 (24 : Int32)) (by decide) (by decide)
  have s_1368 : sg 1 2 0 4 g_1364 := sg_out s_1359 eg_1364 (⟨by decide, by decide⟩ : rg 24 24 (24 : Int32)) (by decide) (by decide)
  have s_1369 : sg 2 3 0 5 g_1364 := sg_out s_1360 eg_1364 (⟨by decide, by decide⟩ : rg 24 24 (24 : Int32)) (by decide) (by decide)
  have s_1370 : sg 3 4 3 3 g_1364 := sg_out s_1361 eg_1364 (⟨by decide, by decide⟩ : rg 24 24 (24 : Int32)) (by decide) (by decide)
  have s_1371 : sg 4 5 1 1 g_1364 := sg_out s_1362 eg_1364 (⟨by decide, by decide⟩ : rg 24 24 (24 : Int32)) (by decide) (by decide)
  have hP : va_P D vwCl [(aI ca q_1124 940 (fun _ => 0)), (aI ca q_1125 376 g_1364), (aI ca q_1127 752 (fun _ => 0)), (aI ca q_1128 360 (fun _ => 0)), (aI ca q_1129 45 (fun _ => 0)), (aJ ca q_1130 19 (fun _ => 0)), (aJ ca q_1131 19 (fun _ => 0)), (aJ ca q_1132 38 (fun _ => 0)), (aZ ca q_1133 2 (fun _ => 0)), (aI ca q_1135 10 (fun _ => 0)), (aZ ca q_1136 1024 (fun _ => 0)), (aI ca q_1137 64 (fun _ => 0)), (aI ca q_1138 80 (fun _ => 0)), (aI ca q_1139 4 (fun _ => 0)), (aI ca q_1140 240 (fun _ => 0)), (h0, .inr (11, [.int 0, .ref q_1124, .int 0, .int 0, .int 0, .int 0, .int 0, .int 0, .int 0, .int 0, .int 0, .int 0, .long 0, .int 0, .ref q_1125, .ref q_1126, .ref q_1127, .ref q_1128, .ref q_1129, .ref q_1130, .ref q_1131, .ref q_1132, .ref q_1133, .ref q_1134, .int 0, .int 0, .int 0, .int (-1), .int (-1), .int (-1), .ref q_1135, .int (-1), .int (-1), .ref q_1136, .int (-1), .int (-1), .ref q_1137, .int 0, .int 0, .ref q_1138, .ref q_1139, .int 0, .int 0, .ref q_1140, .int 0, .int 0, .int 0, .int 0])), (aI ca q_1126 89 u_1143), (aZ ca q_1134 2 u_1144)] H := hP
  have hD : va_D A [(aI ca q_1124 940 (fun _ => 0)), (aI ca q_1125 376 g_1364), (aI ca q_1127 752 (fun _ => 0)), (aI ca q_1128 360 (fun _ => 0)), (aI ca q_1129 45 (fun _ => 0)), (aJ ca q_1130 19 (fun _ => 0)), (aJ ca q_1131 19 (fun _ => 0)), (aJ ca q_1132 38 (fun _ => 0)), (aZ ca q_1133 2 (fun _ => 0)), (aI ca q_1135 10 (fun _ => 0)), (aZ ca q_1136 1024 (fun _ => 0)), (aI ca q_1137 64 (fun _ => 0)), (aI ca q_1138 80 (fun _ => 0)), (aI ca q_1139 4 (fun _ => 0)), (aI ca q_1140 240 (fun _ => 0)), (h0, .inr (11, [.int 0, .ref q_1124, .int 0, .int 0, .int 0, .int 0, .int 0, .int 0, .int 0, .int 0, .int 0, .int 0, .long 0, .int 0, .ref q_1125, .ref q_1126, .ref q_1127, .ref q_1128, .ref q_1129, .ref q_1130, .ref q_1131, .ref q_1132, .ref q_1133, .ref q_1134, .int 0, .int 0, .int 0, .int (-1), .int (-1), .int (-1), .ref q_1135, .int (-1), .int (-1), .ref q_1136, .int (-1), .int (-1), .ref q_1137, .int 0, .int 0, .ref q_1138, .ref q_1139, .int 0, .int 0, .ref q_1140, .int 0, .int 0, .int 0, .int 0])), (aI ca q_1126 89 u_1143), (aZ ca q_1134 2 u_1144)] := hD
  refine lv_iinc (v := 25) (lv' := [(1, .int 25), (0, .ref h0)]) hx hb dX12_init_202 hl (k := 0) rfl (by decide) (by decide) rfl (fun ls hl => ?_)
  refine lv_goto (tgt := 184) hx hb dX12_init_205 (by decide) ?_
  clear s_1357 s_1358 s_1359 s_1360 s_1361 s_1362 ex_1363 eg_1364
  refine lv_iload_n hx hb dX12_init_184 rfl (lv_at hl 0 rfl) ?_
  refine lv_bipush (v := 89) hx hb dX12_init_185 (by decide) ?_
  refine lv_icmp_ge (tgt := 208) hx hb dX12_init_187 (by decide) (fun c => absurd c (by decide)) (fun _ => ?_)
  refine lv_aload_n hx hb dX12_init_190 rfl (lv_at hl 1 rfl) ?_
  refine va_get (D := D) (ci := 11) (v := .ref q_1125) (C := RX12) (T := TX12) (N := 48) hx hb hts k6 hown hK.1 hP 15 rfl rfl 14 (by decide) k7 (fun _ h9 => h9) rfl dX12_init_191 ?_
  refine lv_iload_n hx hb dX12_init_194 rfl (lv_at hl 0 rfl) ?_
  refine lv_aload_n hx hb dX12_init_195 rfl (lv_at hl 1 rfl) ?_
  refine va_get (D := D) (ci := 11) (v := .ref q_1126) (C := RX12) (T := TX12) (N := 48) hx hb hts k6 hown hK.1 hP 15 rfl rfl 15 (by decide) k8 (fun _ h9 => h9) rfl dX12_init_196 ?_
  refine lv_iload_n hx hb dX12_init_199 rfl (lv_at hl 0 rfl) ?_
  refine va_iald hx hb hK.1 hP 16 0 rfl rfl (rg_in (⟨by decide, by decide⟩ : rg 25 25 (25 : Int32)) (by decide) (by decide)) dX12_init_200 ?_
  refine lv_topi (fun x_1372 ex_1372 => ?_)
  refine va_iast hx hb hK.1 hP hD hS 1 0 rfl rfl (rg_in (⟨by decide, by decide⟩ : rg 25 25 (25 : Int32)) (by decide) (by decide)) dX12_init_201 (fun H locs hP hD hS => ?_)
  obtain ⟨g_1373, eg_1373⟩ : ∃ y : Nat → Int32, y = upd g_1364 (25 : Int32).toNatClampNeg (x_1372 : Int32) := ⟨_, rfl⟩
  rw [← eg_1373] at hP hD
  have s_1375 : sg 26 376 0 0 g_1373 := sg_out (sg_w s_1366 (by decide) (by decide) (by decide) (by decide)) eg_1373 (⟨by decide, by decide⟩ : rg 25 25 (25 : Int32)) (by decide) (by decide)
  have s_1376 : sg 0 1 0 10 g_1373 := sg_out s_1367 eg_1373 (⟨by decide, by decide⟩ : rg 25 25 (25 : Int32)) (by decide) (by decide)
  have s_1377 : sg 1 2 0 4 g_1373 := sg_out s_1368 eg_1373 (⟨by decide, by decide⟩ : rg 25 25 (25 : Int32)) (by decide) (by decide)
  have s_1378 : sg 2 3 0 5 g_1373 := sg_out s_1369 eg_1373 (⟨by decide, by decide⟩ : rg 25 25 (25 : Int32)) (by decide) (by decide)
  have s_1379 : sg 3 4 3 3 g_1373 := sg_out s_1370 eg_1373 (⟨by decide, by decide⟩ : rg 25 25 (25 : Int32)) (by decide) (by decide)
  have s_1380 : sg 4 5 1 1 g_1373 := sg_out s_1371 eg_1373 (⟨by decide, by decide⟩ : rg 25 25 (25 : Int32)) (by decide) (by decide)
  have hP : va_P D vwCl [(aI ca q_1124 940 (fun _ => 0)), (aI ca q_1125 376 g_1373), (aI ca q_1127 752 (fun _ => 0)), (aI ca q_1128 360 (fun _ => 0)), (aI ca q_1129 45 (fun _ => 0)), (aJ ca q_1130 19 (fun _ => 0)), (aJ ca q_1131 19 (fun _ => 0)), (aJ ca q_1132 38 (fun _ => 0)), (aZ ca q_1133 2 (fun _ => 0)), (aI ca q_1135 10 (fun _ => 0)), (aZ ca q_1136 1024 (fun _ => 0)), (aI ca q_1137 64 (fun _ => 0)), (aI ca q_1138 80 (fun _ => 0)), (aI ca q_1139 4 (fun _ => 0)), (aI ca q_1140 240 (fun _ => 0)), (h0, .inr (11, [.int 0, .ref q_1124, .int 0, .int 0, .int 0, .int 0, .int 0, .int 0, .int 0, .int 0, .int 0, .int 0, .long 0, .int 0, .ref q_1125, .ref q_1126, .ref q_1127, .ref q_1128, .ref q_1129, .ref q_1130, .ref q_1131, .ref q_1132, .ref q_1133, .ref q_1134, .int 0, .int 0, .int 0, .int (-1), .int (-1), .int (-1), .ref q_1135, .int (-1), .int (-1), .ref q_1136, .int (-1), .int (-1), .ref q_1137, .int 0, .int 0, .ref q_1138, .ref q_1139, .int 0, .int 0, .ref q_1140, .int 0, .int 0, .int 0, .int 0])), (aI ca q_1126 89 u_1143), (aZ ca q_1134 2 u_1144)] H := hP
  have hD : va_D A [(aI ca q_1124 940 (fun _ => 0)), (aI ca q_1125 376 g_1373), (aI ca q_1127 752 (fun _ => 0)), (aI ca q_1128 360 (fun _ => 0)), (aI ca q_1129 45 (fun _ => 0)), (aJ ca q_1130 19 (fun _ => 0)), (aJ ca q_1131 19 (fun _ => 0)), (aJ ca q_1132 38 (fun _ => 0)), (aZ ca q_1133 2 (fun _ => 0)), (aI ca q_1135 10 (fun _ => 0)), (aZ ca q_1136 1024 (fun _ => 0)), (aI ca q_1137 64 (fun _ => 0)), (aI ca q_1138 80 (fun _ => 0)), (aI ca q_1139 4 (fun _ => 0)), (aI ca q_1140 240 (fun _ => 0)), (h0, .inr (11, [.int 0, .ref q_1124, .int 0, .int 0, .int 0, .int 0, .int 0, .int 0, .int 0, .int 0, .int 0, .int 0, .long 0, .int 0, .ref q_1125, .ref q_1126, .ref q_1127, .ref q_1128, .ref q_1129, .ref q_1130, .ref q_1131, .ref q_1132, .ref q_1133, .ref q_1134, .int 0, .int 0, .int 0, .int (-1), .int (-1), .int (-1), .ref q_1135, .int (-1), .int (-1), .ref q_1136, .int (-1), .int (-1), .ref q_1137, .int 0, .int 0, .ref q_1138, .ref q_1139, .int 0, .int 0, .ref q_1140, .int 0, .int 0, .int 0, .int 0])), (aI ca q_1126 89 u_1143), (aZ ca q_1134 2 u_1144)] := hD
  refine lv_iinc (v := 26) (lv' := [(1, .int 26), (0, .ref h0)]) hx hb dX12_init_202 hl (k := 0) rfl (by decide) (by decide) rfl (fun ls hl => ?_)
  refine lv_goto (tgt := 184) hx hb dX12_init_205 (by decide) ?_
  clear s_1366 s_1367 s_1368 s_1369 s_1370 s_1371 ex_1372 eg_1373
  refine lv_iload_n hx hb dX12_init_184 rfl (lv_at hl 0 rfl) ?_
  refine lv_bipush (v := 89) hx hb dX12_init_185 (by decide) ?_
  refine lv_icmp_ge (tgt := 208) hx hb dX12_init_187 (by decide) (fun c => absurd c (by decide)) (fun _ => ?_)
  refine lv_aload_n hx hb dX12_init_190 rfl (lv_at hl 1 rfl) ?_
  refine va_get (D := D) (ci := 11) (v := .ref q_1125) (C := RX12) (T := TX12) (N := 48) hx hb hts k6 hown hK.1 hP 15 rfl rfl 14 (by decide) k7 (fun _ h9 => h9) rfl dX12_init_191 ?_
  refine lv_iload_n hx hb dX12_init_194 rfl (lv_at hl 0 rfl) ?_
  refine lv_aload_n hx hb dX12_init_195 rfl (lv_at hl 1 rfl) ?_
  refine va_get (D := D) (ci := 11) (v := .ref q_1126) (C := RX12) (T := TX12) (N := 48) hx hb hts k6 hown hK.1 hP 15 rfl rfl 15 (by decide) k8 (fun _ h9 => h9) rfl dX12_init_196 ?_
  refine lv_iload_n hx hb dX12_init_199 rfl (lv_at hl 0 rfl) ?_
  refine va_iald hx hb hK.1 hP 16 0 rfl rfl (rg_in (⟨by decide, by decide⟩ : rg 26 26 (26 : Int32)) (by decide) (by decide)) dX12_init_200 ?_
  refine lv_topi (fun x_1381 ex_1381 => ?_)
  refine va_iast hx hb hK.1 hP hD hS 1 0 rfl rfl (rg_in (⟨by decide, by decide⟩ : rg 26 26 (26 : Int32)) (by decide) (by decide)) dX12_init_201 (fun H locs hP hD hS => ?_)
  obtain ⟨g_1382, eg_1382⟩ : ∃ y : Nat → Int32, y = upd g_1373 (26 : Int32).toNatClampNeg (x_1381 : Int32) := ⟨_, rfl⟩
  rw [← eg_1382] at hP hD
  have s_1384 : sg 27 376 0 0 g_1382 := sg_out (sg_w s_1375 (by decide) (by decide) (by decide) (by decide)) eg_1382 (⟨by decide, by decide⟩ : rg 26 26 (26 : Int32)) (by decide) (by decide)
  have s_1385 : sg 0 1 0 10 g_1382 := sg_out s_1376 eg_1382 (⟨by decide, by decide⟩ : rg 26 26 (26 : Int32)) (by decide) (by decide)
  have s_1386 : sg 1 2 0 4 g_1382 := sg_out s_1377 eg_1382 (⟨by decide, by decide⟩ : rg 26 26 (26 : Int32)) (by decide) (by decide)
  have s_1387 : sg 2 3 0 5 g_1382 := sg_out s_1378 eg_1382 (⟨by decide, by decide⟩ : rg 26 26 (26 : Int32)) (by decide) (by decide)
  have s_1388 : sg 3 4 3 3 g_1382 := sg_out s_1379 eg_1382 (⟨by decide, by decide⟩ : rg 26 26 (26 : Int32)) (by decide) (by decide)
  have s_1389 : sg 4 5 1 1 g_1382 := sg_out s_1380 eg_1382 (⟨by decide, by decide⟩ : rg 26 26 (26 : Int32)) (by decide) (by decide)
  have hP : va_P D vwCl [(aI ca q_1124 940 (fun _ => 0)), (aI ca q_1125 376 g_1382), (aI ca q_1127 752 (fun _ => 0)), (aI ca q_1128 360 (fun _ => 0)), (aI ca q_1129 45 (fun _ => 0)), (aJ ca q_1130 19 (fun _ => 0)), (aJ ca q_1131 19 (fun _ => 0)), (aJ ca q_1132 38 (fun _ => 0)), (aZ ca q_1133 2 (fun _ => 0)), (aI ca q_1135 10 (fun _ => 0)), (aZ ca q_1136 1024 (fun _ => 0)), (aI ca q_1137 64 (fun _ => 0)), (aI ca q_1138 80 (fun _ => 0)), (aI ca q_1139 4 (fun _ => 0)), (aI ca q_1140 240 (fun _ => 0)), (h0, .inr (11, [.int 0, .ref q_1124, .int 0, .int 0, .int 0, .int 0, .int 0, .int 0, .int 0, .int 0, .int 0, .int 0, .long 0, .int 0, .ref q_1125, .ref q_1126, .ref q_1127, .ref q_1128, .ref q_1129, .ref q_1130, .ref q_1131, .ref q_1132, .ref q_1133, .ref q_1134, .int 0, .int 0, .int 0, .int (-1), .int (-1), .int (-1), .ref q_1135, .int (-1), .int (-1), .ref q_1136, .int (-1), .int (-1), .ref q_1137, .int 0, .int 0, .ref q_1138, .ref q_1139, .int 0, .int 0, .ref q_1140, .int 0, .int 0, .int 0, .int 0])), (aI ca q_1126 89 u_1143), (aZ ca q_1134 2 u_1144)] H := hP
  have hD : va_D A [(aI ca q_1124 940 (fun _ => 0)), (aI ca q_1125 376 g_1382), (aI ca q_1127 752 (fun _ => 0)), (aI ca q_1128 360 (fun _ => 0)), (aI ca q_1129 45 (fun _ => 0)), (aJ ca q_1130 19 (fun _ => 0)), (aJ ca q_1131 19 (fun _ => 0)), (aJ ca q_1132 38 (fun _ => 0)), (aZ ca q_1133 2 (fun _ => 0)), (aI ca q_1135 10 (fun _ => 0)), (aZ ca q_1136 1024 (fun _ => 0)), (aI ca q_1137 64 (fun _ => 0)), (aI ca q_1138 80 (fun _ => 0)), (aI ca q_1139 4 (fun _ => 0)), (aI ca q_1140 240 (fun _ => 0)), (h0, .inr (11, [.int 0, .ref q_1124, .int 0, .int 0, .int 0, .int 0, .int 0, .int 0, .int 0, .int 0, .int 0, .int 0, .long 0, .int 0, .ref q_1125, .ref q_1126, .ref q_1127, .ref q_1128, .ref q_1129, .ref q_1130, .ref q_1131, .ref q_1132, .ref q_1133, .ref q_1134, .int 0, .int 0, .int 0, .int (-1), .int (-1), .int (-1), .ref q_1135, .int (-1), .int (-1), .ref q_1136, .int (-1), .int (-1), .ref q_1137, .int 0, .int 0, .ref q_1138, .ref q_1139, .int 0, .int 0, .ref q_1140, .int 0, .int 0, .int 0, .int 0])), (aI ca q_1126 89 u_1143), (aZ ca q_1134 2 u_1144)] := hD
  refine lv_iinc (v := 27) (lv' := [(1, .int 27), (0, .ref h0)]) hx hb dX12_init_202 hl (k := 0) rfl (by decide) (by decide) rfl (fun ls hl => ?_)
  refine lv_goto (tgt := 184) hx hb dX12_init_205 (by decide) ?_
  clear s_1375 s_1376 s_1377 s_1378 s_1379 s_1380 ex_1381 eg_1382
  refine lv_iload_n hx hb dX12_init_184 rfl (lv_at hl 0 rfl) ?_
  refine lv_bipush (v := 89) hx hb dX12_init_185 (by decide) ?_
  refine lv_icmp_ge (tgt := 208) hx hb dX12_init_187 (by decide) (fun c => absurd c (by decide)) (fun _ => ?_)
  refine lv_aload_n hx hb dX12_init_190 rfl (lv_at hl 1 rfl) ?_
  refine va_get (D := D) (ci := 11) (v := .ref q_1125) (C := RX12) (T := TX12) (N := 48) hx hb hts k6 hown hK.1 hP 15 rfl rfl 14 (by decide) k7 (fun _ h9 => h9) rfl dX12_init_191 ?_
  refine lv_iload_n hx hb dX12_init_194 rfl (lv_at hl 0 rfl) ?_
  refine lv_aload_n hx hb dX12_init_195 rfl (lv_at hl 1 rfl) ?_
  refine va_get (D := D) (ci := 11) (v := .ref q_1126) (C := RX12) (T := TX12) (N := 48) hx hb hts k6 hown hK.1 hP 15 rfl rfl 15 (by decide) k8 (fun _ h9 => h9) rfl dX12_init_196 ?_
  refine lv_iload_n hx hb dX12_init_199 rfl (lv_at hl 0 rfl) ?_
  refine va_iald hx hb hK.1 hP 16 0 rfl rfl (rg_in (⟨by decide, by decide⟩ : rg 27 27 (27 : Int32)) (by decide) (by decide)) dX12_init_200 ?_
  refine lv_topi (fun x_1390 ex_1390 => ?_)
  refine va_iast hx hb hK.1 hP hD hS 1 0 rfl rfl (rg_in (⟨by decide, by decide⟩ : rg 27 27 (27 : Int32)) (by decide) (by decide)) dX12_init_201 (fun H locs hP hD hS => ?_)
  obtain ⟨g_1391, eg_1391⟩ : ∃ y : Nat → Int32, y = upd g_1382 (27 : Int32).toNatClampNeg (x_1390 : Int32) := ⟨_, rfl⟩
  rw [← eg_1391] at hP hD
  have s_1393 : sg 28 376 0 0 g_1391 := sg_out (sg_w s_1384 (by decide) (by decide) (by decide) (by decide)) eg_1391 (⟨by decide, by decide⟩ : rg 27 27 (27 : Int32)) (by decide) (by decide)
  have s_1394 : sg 0 1 0 10 g_1391 := sg_out s_1385 eg_1391 (⟨by decide, by decide⟩ : rg 27 27 (27 : Int32)) (by decide) (by decide)
  have s_1395 : sg 1 2 0 4 g_1391 := sg_out s_1386 eg_1391 (⟨by decide, by decide⟩ : rg 27 27 (27 : Int32)) (by decide) (by decide)
  have s_1396 : sg 2 3 0 5 g_1391 := sg_out s_1387 eg_1391 (⟨by decide, by decide⟩ : rg 27 27 (27 : Int32)) (by decide) (by decide)
  have s_1397 : sg 3 4 3 3 g_1391 := sg_out s_1388 eg_1391 (⟨by decide, by decide⟩ : rg 27 27 (27 : Int32)) (by decide) (by decide)
  have s_1398 : sg 4 5 1 1 g_1391 := sg_out s_1389 eg_1391 (⟨by decide, by decide⟩ : rg 27 27 (27 : Int32)) (by decide) (by decide)
  have hP : va_P D vwCl [(aI ca q_1124 940 (fun _ => 0)), (aI ca q_1125 376 g_1391), (aI ca q_1127 752 (fun _ => 0)), (aI ca q_1128 360 (fun _ => 0)), (aI ca q_1129 45 (fun _ => 0)), (aJ ca q_1130 19 (fun _ => 0)), (aJ ca q_1131 19 (fun _ => 0)), (aJ ca q_1132 38 (fun _ => 0)), (aZ ca q_1133 2 (fun _ => 0)), (aI ca q_1135 10 (fun _ => 0)), (aZ ca q_1136 1024 (fun _ => 0)), (aI ca q_1137 64 (fun _ => 0)), (aI ca q_1138 80 (fun _ => 0)), (aI ca q_1139 4 (fun _ => 0)), (aI ca q_1140 240 (fun _ => 0)), (h0, .inr (11, [.int 0, .ref q_1124, .int 0, .int 0, .int 0, .int 0, .int 0, .int 0, .int 0, .int 0, .int 0, .int 0, .long 0, .int 0, .ref q_1125, .ref q_1126, .ref q_1127, .ref q_1128, .ref q_1129, .ref q_1130, .ref q_1131, .ref q_1132, .ref q_1133, .ref q_1134, .int 0, .int 0, .int 0, .int (-1), .int (-1), .int (-1), .ref q_1135, .int (-1), .int (-1), .ref q_1136, .int (-1), .int (-1), .ref q_1137, .int 0, .int 0, .ref q_1138, .ref q_1139, .int 0, .int 0, .ref q_1140, .int 0, .int 0, .int 0, .int 0])), (aI ca q_1126 89 u_1143), (aZ ca q_1134 2 u_1144)] H := hP
  have hD : va_D A [(aI ca q_1124 940 (fun _ => 0)), (aI ca q_1125 376 g_1391), (aI ca q_1127 752 (fun _ => 0)), (aI ca q_1128 360 (fun _ => 0)), (aI ca q_1129 45 (fun _ => 0)), (aJ ca q_1130 19 (fun _ => 0)), (aJ ca q_1131 19 (fun _ => 0)), (aJ ca q_1132 38 (fun _ => 0)), (aZ ca q_1133 2 (fun _ => 0)), (aI ca q_1135 10 (fun _ => 0)), (aZ ca q_1136 1024 (fun _ => 0)), (aI ca q_1137 64 (fun _ => 0)), (aI ca q_1138 80 (fun _ => 0)), (aI ca q_1139 4 (fun _ => 0)), (aI ca q_1140 240 (fun _ => 0)), (h0, .inr (11, [.int 0, .ref q_1124, .int 0, .int 0, .int 0, .int 0, .int 0, .int 0, .int 0, .int 0, .int 0, .int 0, .long 0, .int 0, .ref q_1125, .ref q_1126, .ref q_1127, .ref q_1128, .ref q_1129, .ref q_1130, .ref q_1131, .ref q_1132, .ref q_1133, .ref q_1134, .int 0, .int 0, .int 0, .int (-1), .int (-1), .int (-1), .ref q_1135, .int (-1), .int (-1), .ref q_1136, .int (-1), .int (-1), .ref q_1137, .int 0, .int 0, .ref q_1138, .ref q_1139, .int 0, .int 0, .ref q_1140, .int 0, .int 0, .int 0, .int 0])), (aI ca q_1126 89 u_1143), (aZ ca q_1134 2 u_1144)] := hD
  refine lv_iinc (v := 28) (lv' := [(1, .int 28), (0, .ref h0)]) hx hb dX12_init_202 hl (k := 0) rfl (by decide) (by decide) rfl (fun ls hl => ?_)
  refine lv_goto (tgt := 184) hx hb dX12_init_205 (by decide) ?_
  clear s_1384 s_1385 s_1386 s_1387 s_1388 s_1389 ex_1390 eg_1391
  refine lv_iload_n hx hb dX12_init_184 rfl (lv_at hl 0 rfl) ?_
  refine lv_bipush (v := 89) hx hb dX12_init_185 (by decide) ?_
  refine lv_icmp_ge (tgt := 208) hx hb dX12_init_187 (by decide) (fun c => absurd c (by decide)) (fun _ => ?_)
  refine lv_aload_n hx hb dX12_init_190 rfl (lv_at hl 1 rfl) ?_
  refine va_get (D := D) (ci := 11) (v := .ref q_1125) (C := RX12) (T := TX12) (N := 48) hx hb hts k6 hown hK.1 hP 15 rfl rfl 14 (by decide) k7 (fun _ h9 => h9) rfl dX12_init_191 ?_
  refine lv_iload_n hx hb dX12_init_194 rfl (lv_at hl 0 rfl) ?_
  refine lv_aload_n hx hb dX12_init_195 rfl (lv_at hl 1 rfl) ?_
  refine va_get (D := D) (ci := 11) (v := .ref q_1126) (C := RX12) (T := TX12) (N := 48) hx hb hts k6 hown hK.1 hP 15 rfl rfl 15 (by decide) k8 (fun _ h9 => h9) rfl dX12_init_196 ?_
  refine lv_iload_n hx hb dX12_init_199 rfl (lv_at hl 0 rfl) ?_
  refine va_iald hx hb hK.1 hP 16 0 rfl rfl (rg_in (⟨by decide, by decide⟩ : rg 28 28 (28 : Int32)) (by decide) (by decide)) dX12_init_200 ?_
  refine lv_topi (fun x_1399 ex_1399 => ?_)
  refine va_iast hx hb hK.1 hP hD hS 1 0 rfl rfl (rg_in (⟨by decide, by decide⟩ : rg 28 28 (28 : Int32)) (by decide) (by decide)) dX12_init_201 (fun H locs hP hD hS => ?_)
  obtain ⟨g_1400, eg_1400⟩ : ∃ y : Nat → Int32, y = upd g_1391 (28 : Int32).toNatClampNeg (x_1399 : Int32) := ⟨_, rfl⟩
  rw [← eg_1400] at hP hD
  have s_1402 : sg 29 376 0 0 g_1400 := sg_out (sg_w s_1393 (by decide) (by decide) (by decide) (by decide)) eg_1400 (⟨by decide, by decide⟩ : rg 28 28 (28 : Int32)) (by decide) (by decide)
  have s_1403 : sg 0 1 0 10 g_1400 := sg_out s_1394 eg_1400 (⟨by decide, by decide⟩ : rg 28 28 (28 : Int32)) (by decide) (by decide)
  have s_1404 : sg 1 2 0 4 g_1400 := sg_out s_1395 eg_1400 (⟨by decide, by decide⟩ : rg 28 28 (28 : Int32)) (by decide) (by decide)
  have s_1405 : sg 2 3 0 5 g_1400 := sg_out s_1396 eg_1400 (⟨by decide, by decide⟩ : rg 28 28 (28 : Int32)) (by decide) (by decide)
  have s_1406 : sg 3 4 3 3 g_1400 := sg_out s_1397 eg_1400 (⟨by decide, by decide⟩ : rg 28 28 (28 : Int32)) (by decide) (by decide)
  have s_1407 : sg 4 5 1 1 g_1400 := sg_out s_1398 eg_1400 (⟨by decide, by decide⟩ : rg 28 28 (28 : Int32)) (by decide) (by decide)
  have hP : va_P D vwCl [(aI ca q_1124 940 (fun _ => 0)), (aI ca q_1125 376 g_1400), (aI ca q_1127 752 (fun _ => 0)), (aI ca q_1128 360 (fun _ => 0)), (aI ca q_1129 45 (fun _ => 0)), (aJ ca q_1130 19 (fun _ => 0)), (aJ ca q_1131 19 (fun _ => 0)), (aJ ca q_1132 38 (fun _ => 0)), (aZ ca q_1133 2 (fun _ => 0)), (aI ca q_1135 10 (fun _ => 0)), (aZ ca q_1136 1024 (fun _ => 0)), (aI ca q_1137 64 (fun _ => 0)), (aI ca q_1138 80 (fun _ => 0)), (aI ca q_1139 4 (fun _ => 0)), (aI ca q_1140 240 (fun _ => 0)), (h0, .inr (11, [.int 0, .ref q_1124, .int 0, .int 0, .int 0, .int 0, .int 0, .int 0, .int 0, .int 0, .int 0, .int 0, .long 0, .int 0, .ref q_1125, .ref q_1126, .ref q_1127, .ref q_1128, .ref q_1129, .ref q_1130, .ref q_1131, .ref q_1132, .ref q_1133, .ref q_1134, .int 0, .int 0, .int 0, .int (-1), .int (-1), .int (-1), .ref q_1135, .int (-1), .int (-1), .ref q_1136, .int (-1), .int (-1), .ref q_1137, .int 0, .int 0, .ref q_1138, .ref q_1139, .int 0, .int 0, .ref q_1140, .int 0, .int 0, .int 0, .int 0])), (aI ca q_1126 89 u_1143), (aZ ca q_1134 2 u_1144)] H := hP
  have hD : va_D A [(aI ca q_1124 940 (fun _ => 0)), (aI ca q_1125 376 g_1400), (aI ca q_1127 752 (fun _ => 0)), (aI ca q_1128 360 (fun _ => 0)), (aI ca q_1129 45 (fun _ => 0)), (aJ ca q_1130 19 (fun _ => 0)), (aJ ca q_1131 19 (fun _ => 0)), (aJ ca q_1132 38 (fun _ => 0)), (aZ ca q_1133 2 (fun _ => 0)), (aI ca q_1135 10 (fun _ => 0)), (aZ ca q_1136 1024 (fun _ => 0)), (aI ca q_1137 64 (fun _ => 0)), (aI ca q_1138 80 (fun _ => 0)), (aI ca q_1139 4 (fun _ => 0)), (aI ca q_1140 240 (fun _ => 0)), (h0, .inr (11, [.int 0, .ref q_1124, .int 0, .int 0, .int 0, .int 0, .int 0, .int 0, .int 0, .int 0, .int 0, .int 0, .long 0, .int 0, .ref q_1125, .ref q_1126, .ref q_1127, .ref q_1128, .ref q_1129, .ref q_1130, .ref q_1131, .ref q_1132, .ref q_1133, .ref q_1134, .int 0, .int 0, .int 0, .int (-1), .int (-1), .int (-1), .ref q_1135, .int (-1), .int (-1), .ref q_1136, .int (-1), .int (-1), .ref q_1137, .int 0, .int 0, .ref q_1138, .ref q_1139, .int 0, .int 0, .ref q_1140, .int 0, .int 0, .int 0, .int 0])), (aI ca q_1126 89 u_1143), (aZ ca q_1134 2 u_1144)] := hD
  refine lv_iinc (v := 29) (lv' := [(1, .int 29), (0, .ref h0)]) hx hb dX12_init_202 hl (k := 0) rfl (by decide) (by decide) rfl (fun ls hl => ?_)
  refine lv_goto (tgt := 184) hx hb dX12_init_205 (by decide) ?_
  clear s_1393 s_1394 s_1395 s_1396 s_1397 s_1398 ex_1399 eg_1400
  refine lv_iload_n hx hb dX12_init_184 rfl (lv_at hl 0 rfl) ?_
  refine lv_bipush (v := 89) hx hb dX12_init_185 (by decide) ?_
  refine lv_icmp_ge (tgt := 208) hx hb dX12_init_187 (by decide) (fun c => absurd c (by decide)) (fun _ => ?_)
  refine lv_aload_n hx hb dX12_init_190 rfl (lv_at hl 1 rfl) ?_
  refine va_get (D := D) (ci := 11) (v := .ref q_1125) (C := RX12) (T := TX12) (N := 48) hx hb hts k6 hown hK.1 hP 15 rfl rfl 14 (by decide) k7 (fun _ h9 => h9) rfl dX12_init_191 ?_
  refine lv_iload_n hx hb dX12_init_194 rfl (lv_at hl 0 rfl) ?_
  refine lv_aload_n hx hb dX12_init_195 rfl (lv_at hl 1 rfl) ?_
  refine va_get (D := D) (ci := 11) (v := .ref q_1126) (C := RX12) (T := TX12) (N := 48) hx hb hts k6 hown hK.1 hP 15 rfl rfl 15 (by decide) k8 (fun _ h9 => h9) rfl dX12_init_196 ?_
  refine lv_iload_n hx hb dX12_init_199 rfl (lv_at hl 0 rfl) ?_
  refine va_iald hx hb hK.1 hP 16 0 rfl rfl (rg_in (⟨by decide, by decide⟩ : rg 29 29 (29 : Int32)) (by decide) (by decide)) dX12_init_200 ?_
  refine lv_topi (fun x_1408 ex_1408 => ?_)
  refine va_iast hx hb hK.1 hP hD hS 1 0 rfl rfl (rg_in (⟨by decide, by decide⟩ : rg 29 29 (29 : Int32)) (by decide) (by decide)) dX12_init_201 (fun H locs hP hD hS => ?_)
  obtain ⟨g_1409, eg_1409⟩ : ∃ y : Nat → Int32, y = upd g_1400 (29 : Int32).toNatClampNeg (x_1408 : Int32) := ⟨_, rfl⟩
  rw [← eg_1409] at hP hD
  have s_1411 : sg 30 376 0 0 g_1409 := sg_out (sg_w s_1402 (by decide) (by decide) (by decide) (by decide)) eg_1409 (⟨by decide, by decide⟩ : rg 29 29 (29 : Int32)) (by decide) (by decide)
  have s_1412 : sg 0 1 0 10 g_1409 := sg_out s_1403 eg_1409 (⟨by decide, by decide⟩ : rg 29 29 (29 : Int32)) (by decide) (by decide)
  have s_1413 : sg 1 2 0 4 g_1409 := sg_out s_1404 eg_1409 (⟨by decide, by decide⟩ : rg 29 29 (29 : Int32)) (by decide) (by decide)
  have s_1414 : sg 2 3 0 5 g_1409 := sg_out s_1405 eg_1409 (⟨by decide, by decide⟩ : rg 29 29 (29 : Int32)) (by decide) (by decide)
  have s_1415 : sg 3 4 3 3 g_1409 := sg_out s_1406 eg_1409 (⟨by decide, by decide⟩ : rg 29 29 (29 : Int32)) (by decide) (by decide)
  have s_1416 : sg 4 5 1 1 g_1409 := sg_out s_1407 eg_1409 (⟨by decide, by decide⟩ : rg 29 29 (29 : Int32)) (by decide) (by decide)
  have hP : va_P D vwCl [(aI ca q_1124 940 (fun _ => 0)), (aI ca q_1125 376 g_1409), (aI ca q_1127 752 (fun _ => 0)), (aI ca q_1128 360 (fun _ => 0)), (aI ca q_1129 45 (fun _ => 0)), (aJ ca q_1130 19 (fun _ => 0)), (aJ ca q_1131 19 (fun _ => 0)), (aJ ca q_1132 38 (fun _ => 0)), (aZ ca q_1133 2 (fun _ => 0)), (aI ca q_1135 10 (fun _ => 0)), (aZ ca q_1136 1024 (fun _ => 0)), (aI ca q_1137 64 (fun _ => 0)), (aI ca q_1138 80 (fun _ => 0)), (aI ca q_1139 4 (fun _ => 0)), (aI ca q_1140 240 (fun _ => 0)), (h0, .inr (11, [.int 0, .ref q_1124, .int 0, .int 0, .int 0, .int 0, .int 0, .int 0, .int 0, .int 0, .int 0, .int 0, .long 0, .int 0, .ref q_1125, .ref q_1126, .ref q_1127, .ref q_1128, .ref q_1129, .ref q_1130, .ref q_1131, .ref q_1132, .ref q_1133, .ref q_1134, .int 0, .int 0, .int 0, .int (-1), .int (-1), .int (-1), .ref q_1135, .int (-1), .int (-1), .ref q_1136, .int (-1), .int (-1), .ref q_1137, .int 0, .int 0, .ref q_1138, .ref q_1139, .int 0, .int 0, .ref q_1140, .int 0, .int 0, .int 0, .int 0])), (aI ca q_1126 89 u_1143), (aZ ca q_1134 2 u_1144)] H := hP
  have hD : va_D A [(aI ca q_1124 940 (fun _ => 0)), (aI ca q_1125 376 g_1409), (aI ca q_1127 752 (fun _ => 0)), (aI ca q_1128 360 (fun _ => 0)), (aI ca q_1129 45 (fun _ => 0)), (aJ ca q_1130 19 (fun _ => 0)), (aJ ca q_1131 19 (fun _ => 0)), (aJ ca q_1132 38 (fun _ => 0)), (aZ ca q_1133 2 (fun _ => 0)), (aI ca q_1135 10 (fun _ => 0)), (aZ ca q_1136 1024 (fun _ => 0)), (aI ca q_1137 64 (fun _ => 0)), (aI ca q_1138 80 (fun _ => 0)), (aI ca q_1139 4 (fun _ => 0)), (aI ca q_1140 240 (fun _ => 0)), (h0, .inr (11, [.int 0, .ref q_1124, .int 0, .int 0, .int 0, .int 0, .int 0, .int 0, .int 0, .int 0, .int 0, .int 0, .long 0, .int 0, .ref q_1125, .ref q_1126, .ref q_1127, .ref q_1128, .ref q_1129, .ref q_1130, .ref q_1131, .ref q_1132, .ref q_1133, .ref q_1134, .int 0, .int 0, .int 0, .int (-1), .int (-1), .int (-1), .ref q_1135, .int (-1), .int (-1), .ref q_1136, .int (-1), .int (-1), .ref q_1137, .int 0, .int 0, .ref q_1138, .ref q_1139, .int 0, .int 0, .ref q_1140, .int 0, .int 0, .int 0, .int 0])), (aI ca q_1126 89 u_1143), (aZ ca q_1134 2 u_1144)] := hD
  refine lv_iinc (v := 30) (lv' := [(1, .int 30), (0, .ref h0)]) hx hb dX12_init_202 hl (k := 0) rfl (by decide) (by decide) rfl (fun ls hl => ?_)
  refine lv_goto (tgt := 184) hx hb dX12_init_205 (by decide) ?_
  clear s_1402 s_1403 s_1404 s_1405 s_1406 s_1407 ex_1408 eg_1409
  refine lv_iload_n hx hb dX12_init_184 rfl (lv_at hl 0 rfl) ?_
  refine lv_bipush (v := 89) hx hb dX12_init_185 (by decide) ?_
  refine lv_icmp_ge (tgt := 208) hx hb dX12_init_187 (by decide) (fun c => absurd c (by decide)) (fun _ => ?_)
  refine lv_aload_n hx hb dX12_init_190 rfl (lv_at hl 1 rfl) ?_
  refine va_get (D := D) (ci := 11) (v := .ref q_1125) (C := RX12) (T := TX12) (N := 48) hx hb hts k6 hown hK.1 hP 15 rfl rfl 14 (by decide) k7 (fun _ h9 => h9) rfl dX12_init_191 ?_
  refine lv_iload_n hx hb dX12_init_194 rfl (lv_at hl 0 rfl) ?_
  refine lv_aload_n hx hb dX12_init_195 rfl (lv_at hl 1 rfl) ?_
  refine va_get (D := D) (ci := 11) (v := .ref q_1126) (C := RX12) (T := TX12) (N := 48) hx hb hts k6 hown hK.1 hP 15 rfl rfl 15 (by decide) k8 (fun _ h9 => h9) rfl dX12_init_196 ?_
  refine lv_iload_n hx hb dX12_init_199 rfl (lv_at hl 0 rfl) ?_
  refine va_iald hx hb hK.1 hP 16 0 rfl rfl (rg_in (⟨by decide, by decide⟩ : rg 30 30 (30 : Int32)) (by decide) (by decide)) dX12_init_200 ?_
  refine lv_topi (fun x_1417 ex_1417 => ?_)
  refine va_iast hx hb hK.1 hP hD hS 1 0 rfl rfl (rg_in (⟨by decide, by decide⟩ : rg 30 30 (30 : Int32)) (by decide) (by decide)) dX12_init_201 (fun H locs hP hD hS => ?_)
  obtain ⟨g_1418, eg_1418⟩ : ∃ y : Nat → Int32, y = upd g_1409 (30 : Int32).toNatClampNeg (x_1417 : Int32) := ⟨_, rfl⟩
  rw [← eg_1418] at hP hD
  have s_1420 : sg 31 376 0 0 g_1418 := sg_out (sg_w s_1411 (by decide) (by decide) (by decide) (by decide)) eg_1418 (⟨by decide, by decide⟩ : rg 30 30 (30 : Int32)) (by decide) (by decide)
  have s_1421 : sg 0 1 0 10 g_1418 := sg_out s_1412 eg_1418 (⟨by decide, by decide⟩ : rg 30 30 (30 : Int32)) (by decide) (by decide)
  have s_1422 : sg 1 2 0 4 g_1418 := sg_out s_1413 eg_1418 (⟨by decide, by decide⟩ : rg 30 30 (30 : Int32)) (by decide) (by decide)
  have s_1423 : sg 2 3 0 5 g_1418 := sg_out s_1414 eg_1418 (⟨by decide, by decide⟩ : rg 30 30 (30 : Int32)) (by decide) (by decide)
  have s_1424 : sg 3 4 3 3 g_1418 := sg_out s_1415 eg_1418 (⟨by decide, by decide⟩ : rg 30 30 (30 : Int32)) (by decide) (by decide)
  have s_1425 : sg 4 5 1 1 g_1418 := sg_out s_1416 eg_1418 (⟨by decide, by decide⟩ : rg 30 30 (30 : Int32)) (by decide) (by decide)
  have hP : va_P D vwCl [(aI ca q_1124 940 (fun _ => 0)), (aI ca q_1125 376 g_1418), (aI ca q_1127 752 (fun _ => 0)), (aI ca q_1128 360 (fun _ => 0)), (aI ca q_1129 45 (fun _ => 0)), (aJ ca q_1130 19 (fun _ => 0)), (aJ ca q_1131 19 (fun _ => 0)), (aJ ca q_1132 38 (fun _ => 0)), (aZ ca q_1133 2 (fun _ => 0)), (aI ca q_1135 10 (fun _ => 0)), (aZ ca q_1136 1024 (fun _ => 0)), (aI ca q_1137 64 (fun _ => 0)), (aI ca q_1138 80 (fun _ => 0)), (aI ca q_1139 4 (fun _ => 0)), (aI ca q_1140 240 (fun _ => 0)), (h0, .inr (11, [.int 0, .ref q_1124, .int 0, .int 0, .int 0, .int 0, .int 0, .int 0, .int 0, .int 0, .int 0, .int 0, .long 0, .int 0, .ref q_1125, .ref q_1126, .ref q_1127, .ref q_1128, .ref q_1129, .ref q_1130, .ref q_1131, .ref q_1132, .ref q_1133, .ref q_1134, .int 0, .int 0, .int 0, .int (-1), .int (-1), .int (-1), .ref q_1135, .int (-1), .int (-1), .ref q_1136, .int (-1), .int (-1), .ref q_1137, .int 0, .int 0, .ref q_1138, .ref q_1139, .int 0, .int 0, .ref q_1140, .int 0, .int 0, .int 0, .int 0])), (aI ca q_1126 89 u_1143), (aZ ca q_1134 2 u_1144)] H := hP
  have hD : va_D A [(aI ca q_1124 940 (fun _ => 0)), (aI ca q_1125 376 g_1418), (aI ca q_1127 752 (fun _ => 0)), (aI ca q_1128 360 (fun _ => 0)), (aI ca q_1129 45 (fun _ => 0)), (aJ ca q_1130 19 (fun _ => 0)), (aJ ca q_1131 19 (fun _ => 0)), (aJ ca q_1132 38 (fun _ => 0)), (aZ ca q_1133 2 (fun _ => 0)), (aI ca q_1135 10 (fun _ => 0)), (aZ ca q_1136 1024 (fun _ => 0)), (aI ca q_1137 64 (fun _ => 0)), (aI ca q_1138 80 (fun _ => 0)), (aI ca q_1139 4 (fun _ => 0)), (aI ca q_1140 240 (fun _ => 0)), (h0, .inr (11, [.int 0, .ref q_1124, .int 0, .int 0, .int 0, .int 0, .int 0, .int 0, .int 0, .int 0, .int 0, .int 0, .long 0, .int 0, .ref q_1125, .ref q_1126, .ref q_1127, .ref q_1128, .ref q_1129, .ref q_1130, .ref q_1131, .ref q_1132, .ref q_1133, .ref q_1134, .int 0, .int 0, .int 0, .int (-1), .int (-1), .int (-1), .ref q_1135, .int (-1), .int (-1), .ref q_1136, .int (-1), .int (-1), .ref q_1137, .int 0, .int 0, .ref q_1138, .ref q_1139, .int 0, .int 0, .ref q_1140, .int 0, .int 0, .int 0, .int 0])), (aI ca q_1126 89 u_1143), (aZ ca q_1134 2 u_1144)] := hD
  refine lv_iinc (v := 31) (lv' := [(1, .int 31), (0, .ref h0)]) hx hb dX12_init_202 hl (k := 0) rfl (by decide) (by decide) rfl (fun ls hl => ?_)
  refine lv_goto (tgt := 184) hx hb dX12_init_205 (by decide) ?_
  clear s_1411 s_1412 s_1413 s_1414 s_1415 s_1416 ex_1417 eg_1418
  refine lv_iload_n hx hb dX12_init_184 rfl (lv_at hl 0 rfl) ?_
  refine lv_bipush (v := 89) hx hb dX12_init_185 (by decide) ?_
  refine lv_icmp_ge (tgt := 208) hx hb dX12_init_187 (by decide) (fun c => absurd c (by decide)) (fun _ => ?_)
  refine lv_aload_n hx hb dX12_init_190 rfl (lv_at hl 1 rfl) ?_
  refine va_get (D := D) (ci := 11) (v := .ref q_1125) (C := RX12) (T := TX12) (N := 48) hx hb hts k6 hown hK.1 hP 15 rfl rfl 14 (by decide) k7 (fun _ h9 => h9) rfl dX12_init_191 ?_
  refine lv_iload_n hx hb dX12_init_194 rfl (lv_at hl 0 rfl) ?_
  refine lv_aload_n hx hb dX12_init_195 rfl (lv_at hl 1 rfl) ?_
  refine va_get (D := D) (ci := 11) (v := .ref q_1126) (C := RX12) (T := TX12) (N := 48) hx hb hts k6 hown hK.1 hP 15 rfl rfl 15 (by decide) k8 (fun _ h9 => h9) rfl dX12_init_196 ?_
  refine lv_iload_n hx hb dX12_init_199 rfl (lv_at hl 0 rfl) ?_
  refine va_iald hx hb hK.1 hP 16 0 rfl rfl (rg_in (⟨by decide, by decide⟩ : rg 31 31 (31 : Int32)) (by decide) (by decide)) dX12_init_200 ?_
  refine lv_topi (fun x_1426 ex_1426 => ?_)
  refine va_iast hx hb hK.1 hP hD hS 1 0 rfl rfl (rg_in (⟨by decide, by decide⟩ : rg 31 31 (31 : Int32)) (by decide) (by decide)) dX12_init_201 (fun H locs hP hD hS => ?_)
  obtain ⟨g_1427, eg_1427⟩ : ∃ y : Nat → Int32, y = upd g_1418 (31 : Int32).toNatClampNeg (x_1426 : Int32) := ⟨_, rfl⟩
  rw [← eg_1427] at hP hD
  have s_1429 : sg 32 376 0 0 g_1427 := sg_out (sg_w s_1420 (by decide) (by decide) (by decide) (by decide)) eg_1427 (⟨by decide, by decide⟩ : rg 31 31 (31 : Int32)) (by decide) (by decide)
  have s_1430 : sg 0 1 0 10 g_1427 := sg_out s_1421 eg_1427 (⟨by decide, by decide⟩ : rg 31 31 (31 : Int32)) (by decide) (by decide)
  have s_1431 : sg 1 2 0 4 g_1427 := sg_out s_1422 eg_1427 (⟨by decide, by decide⟩ : rg 31 31 (31 : Int32)) (by decide) (by decide)
  have s_1432 : sg 2 3 0 5 g_1427 := sg_out s_1423 eg_1427 (⟨by decide, by decide⟩ : rg 31 31 (31 : Int32)) (by decide) (by decide)
  have s_1433 : sg 3 4 3 3 g_1427 := sg_out s_1424 eg_1427 (⟨by decide, by decide⟩ : rg 31 31 (31 : Int32)) (by decide) (by decide)
  have s_1434 : sg 4 5 1 1 g_1427 := sg_out s_1425 eg_1427 (⟨by decide, by decide⟩ : rg 31 31 (31 : Int32)) (by decide) (by decide)
  have hP : va_P D vwCl [(aI ca q_1124 940 (fun _ => 0)), (aI ca q_1125 376 g_1427), (aI ca q_1127 752 (fun _ => 0)), (aI ca q_1128 360 (fun _ => 0)), (aI ca q_1129 45 (fun _ => 0)), (aJ ca q_1130 19 (fun _ => 0)), (aJ ca q_1131 19 (fun _ => 0)), (aJ ca q_1132 38 (fun _ => 0)), (aZ ca q_1133 2 (fun _ => 0)), (aI ca q_1135 10 (fun _ => 0)), (aZ ca q_1136 1024 (fun _ => 0)), (aI ca q_1137 64 (fun _ => 0)), (aI ca q_1138 80 (fun _ => 0)), (aI ca q_1139 4 (fun _ => 0)), (aI ca q_1140 240 (fun _ => 0)), (h0, .inr (11, [.int 0, .ref q_1124, .int 0, .int 0, .int 0, .int 0, .int 0, .int 0, .int 0, .int 0, .int 0, .int 0, .long 0, .int 0, .ref q_1125, .ref q_1126, .ref q_1127, .ref q_1128, .ref q_1129, .ref q_1130, .ref q_1131, .ref q_1132, .ref q_1133, .ref q_1134, .int 0, .int 0, .int 0, .int (-1), .int (-1), .int (-1), .ref q_1135, .int (-1), .int (-1), .ref q_1136, .int (-1), .int (-1), .ref q_1137, .int 0, .int 0, .ref q_1138, .ref q_1139, .int 0, .int 0, .ref q_1140, .int 0, .int 0, .int 0, .int 0])), (aI ca q_1126 89 u_1143), (aZ ca q_1134 2 u_1144)] H := hP
  have hD : va_D A [(aI ca q_1124 940 (fun _ => 0)), (aI ca q_1125 376 g_1427), (aI ca q_1127 752 (fun _ => 0)), (aI ca q_1128 360 (fun _ => 0)), (aI ca q_1129 45 (fun _ => 0)), (aJ ca q_1130 19 (fun _ => 0)), (aJ ca q_1131 19 (fun _ => 0)), (aJ ca q_1132 38 (fun _ => 0)), (aZ ca q_1133 2 (fun _ => 0)), (aI ca q_1135 10 (fun _ => 0)), (aZ ca q_1136 1024 (fun _ => 0)), (aI ca q_1137 64 (fun _ => 0)), (aI ca q_1138 80 (fun _ => 0)), (aI ca q_1139 4 (fun _ => 0)), (aI ca q_1140 240 (fun _ => 0)), (h0, .inr (11, [.int 0, .ref q_1124, .int 0, .int 0, .int 0, .int 0, .int 0, .int 0, .int 0, .int 0, .int 0, .int 0, .long 0, .int 0, .ref q_1125, .ref q_1126, .ref q_1127, .ref q_1128, .ref q_1129, .ref q_1130, .ref q_1131, .ref q_1132, .ref q_1133, .ref q_1134, .int 0, .int 0, .int 0, .int (-1), .int (-1), .int (-1), .ref q_1135, .int (-1), .int (-1), .ref q_1136, .int (-1), .int (-1), .ref q_1137, .int 0, .int 0, .ref q_1138, .ref q_1139, .int 0, .int 0, .ref q_1140, .int 0, .int 0, .int 0, .int 0])), (aI ca q_1126 89 u_1143), (aZ ca q_1134 2 u_1144)] := hD
  refine lv_iinc (v := 32) (lv' := [(1, .int 32), (0, .ref h0)]) hx hb dX12_init_202 hl (k := 0) rfl (by decide) (by decide) rfl (fun ls hl => ?_)
  refine lv_goto (tgt := 184) hx hb dX12_init_205 (by decide) ?_
  clear s_1420 s_1421 s_1422 s_1423 s_1424 s_1425 ex_1426 eg_1427
  refine lv_iload_n hx hb dX12_init_184 rfl (lv_at hl 0 rfl) ?_
  refine lv_bipush (v := 89) hx hb dX12_init_185 (by decide) ?_
  refine lv_icmp_ge (tgt := 208) hx hb dX12_init_187 (by decide) (fun c => absurd c (by decide)) (fun _ => ?_)
  refine lv_aload_n hx hb dX12_init_190 rfl (lv_at hl 1 rfl) ?_
  refine va_get (D := D) (ci := 11) (v := .ref q_1125) (C := RX12) (T := TX12) (N := 48) hx hb hts k6 hown hK.1 hP 15 rfl rfl 14 (by decide) k7 (fun _ h9 => h9) rfl dX12_init_191 ?_
  refine lv_iload_n hx hb dX12_init_194 rfl (lv_at hl 0 rfl) ?_
  refine lv_aload_n hx hb dX12_init_195 rfl (lv_at hl 1 rfl) ?_
  refine va_get (D := D) (ci := 11) (v := .ref q_1126) (C := RX12) (T := TX12) (N := 48) hx hb hts k6 hown hK.1 hP 15 rfl rfl 15 (by decide) k8 (fun _ h9 => h9) rfl dX12_init_196 ?_
  refine lv_iload_n hx hb dX12_init_199 rfl (lv_at hl 0 rfl) ?_
  refine va_iald hx hb hK.1 hP 16 0 rfl rfl (rg_in (⟨by decide, by decide⟩ : rg 32 32 (32 : Int32)) (by decide) (by decide)) dX12_init_200 ?_
  refine lv_topi (fun x_1435 ex_1435 => ?_)
  refine va_iast hx hb hK.1 hP hD hS 1 0 rfl rfl (rg_in (⟨by decide, by decide⟩ : rg 32 32 (32 : Int32)) (by decide) (by decide)) dX12_init_201 (fun H locs hP hD hS => ?_)
  obtain ⟨g_1436, eg_1436⟩ : ∃ y : Nat → Int32, y = upd g_1427 (32 : Int32).toNatClampNeg (x_1435 : Int32) := ⟨_, rfl⟩
  rw [← eg_1436] at hP hD
  have s_1438 : sg 33 376 0 0 g_1436 := sg_out (sg_w s_1429 (by decide) (by decide) (by decide) (by decide)) eg_1436 (⟨by decide, by decide⟩ : rg 32 32 (32 : Int32)) (by decide) (by decide)
  have s_1439 : sg 0 1 0 10 g_1436 := sg_out s_1430 eg_1436 (⟨by decide, by decide⟩ : rg 32 32 (32 : Int32)) (by decide) (by decide)
  have s_1440 : sg 1 2 0 4 g_1436 := sg_out s_1431 eg_1436 (⟨by decide, by decide⟩ : rg 32 32 (32 : Int32)) (by decide) (by decide)
  have s_1441 : sg 2 3 0 5 g_1436 := sg_out s_1432 eg_1436 (⟨by decide, by decide⟩ : rg 32 32 (32 : Int32)) (by decide) (by decide)
  have s_1442 : sg 3 4 3 3 g_1436 := sg_out s_1433 eg_1436 (⟨by decide, by decide⟩ : rg 32 32 (32 : Int32)) (by decide) (by decide)
  have s_1443 : sg 4 5 1 1 g_1436 := sg_out s_1434 eg_1436 (⟨by decide, by decide⟩ : rg 32 32 (32 : Int32)) (by decide) (by decide)
  have hP : va_P D vwCl [(aI ca q_1124 940 (fun _ => 0)), (aI ca q_1125 376 g_1436), (aI ca q_1127 752 (fun _ => 0)), (aI ca q_1128 360 (fun _ => 0)), (aI ca q_1129 45 (fun _ => 0)), (aJ ca q_1130 19 (fun _ => 0)), (aJ ca q_1131 19 (fun _ => 0)), (aJ ca q_1132 38 (fun _ => 0)), (aZ ca q_1133 2 (fun _ => 0)), (aI ca q_1135 10 (fun _ => 0)), (aZ ca q_1136 1024 (fun _ => 0)), (aI ca q_1137 64 (fun _ => 0)), (aI ca q_1138 80 (fun _ => 0)), (aI ca q_1139 4 (fun _ => 0)), (aI ca q_1140 240 (fun _ => 0)), (h0, .inr (11, [.int 0, .ref q_1124, .int 0, .int 0, .int 0, .int 0, .int 0, .int 0, .int 0, .int 0, .int 0, .int 0, .long 0, .int 0, .ref q_1125, .ref q_1126, .ref q_1127, .ref q_1128, .ref q_1129, .ref q_1130, .ref q_1131, .ref q_1132, .ref q_1133, .ref q_1134, .int 0, .int 0, .int 0, .int (-1), .int (-1), .int (-1), .ref q_1135, .int (-1), .int (-1), .ref q_1136, .int (-1), .int (-1), .ref q_1137, .int 0, .int 0, .ref q_1138, .ref q_1139, .int 0, .int 0, .ref q_1140, .int 0, .int 0, .int 0, .int 0])), (aI ca q_1126 89 u_1143), (aZ ca q_1134 2 u_1144)] H := hP
  have hD : va_D A [(aI ca q_1124 940 (fun _ => 0)), (aI ca q_1125 376 g_1436), (aI ca q_1127 752 (fun _ => 0)), (aI ca q_1128 360 (fun _ => 0)), (aI ca q_1129 45 (fun _ => 0)), (aJ ca q_1130 19 (fun _ => 0)), (aJ ca q_1131 19 (fun _ => 0)), (aJ ca q_1132 38 (fun _ => 0)), (aZ ca q_1133 2 (fun _ => 0)), (aI ca q_1135 10 (fun _ => 0)), (aZ ca q_1136 1024 (fun _ => 0)), (aI ca q_1137 64 (fun _ => 0)), (aI ca q_1138 80 (fun _ => 0)), (aI ca q_1139 4 (fun _ => 0)), (aI ca q_1140 240 (fun _ => 0)), (h0, .inr (11, [.int 0, .ref q_1124, .int 0, .int 0, .int 0, .int 0, .int 0, .int 0, .int 0, .int 0, .int 0, .int 0, .long 0, .int 0, .ref q_1125, .ref q_1126, .ref q_1127, .ref q_1128, .ref q_1129, .ref q_1130, .ref q_1131, .ref q_1132, .ref q_1133, .ref q_1134, .int 0, .int 0, .int 0, .int (-1), .int (-1), .int (-1), .ref q_1135, .int (-1), .int (-1), .ref q_1136, .int (-1), .int (-1), .ref q_1137, .int 0, .int 0, .ref q_1138, .ref q_1139, .int 0, .int 0, .ref q_1140, .int 0, .int 0, .int 0, .int 0])), (aI ca q_1126 89 u_1143), (aZ ca q_1134 2 u_1144)] := hD
  refine lv_iinc (v := 33) (lv' := [(1, .int 33), (0, .ref h0)]) hx hb dX12_init_202 hl (k := 0) rfl (by decide) (by decide) rfl (fun ls hl => ?_)
  refine lv_goto (tgt := 184) hx hb dX12_init_205 (by decide) ?_
  clear s_1429 s_1430 s_1431 s_1432 s_1433 s_1434 ex_1435 eg_1436
  refine lv_iload_n hx hb dX12_init_184 rfl (lv_at hl 0 rfl) ?_
  refine lv_bipush (v := 89) hx hb dX12_init_185 (by decide) ?_
  refine lv_icmp_ge (tgt := 208) hx hb dX12_init_187 (by decide) (fun c => absurd c (by decide)) (fun _ => ?_)
  refine lv_aload_n hx hb dX12_init_190 rfl (lv_at hl 1 rfl) ?_
  refine va_get (D := D) (ci := 11) (v := .ref q_1125) (C := RX12) (T := TX12) (N := 48) hx hb hts k6 hown hK.1 hP 15 rfl rfl 14 (by decide) k7 (fun _ h9 => h9) rfl dX12_init_191 ?_
  refine lv_iload_n hx hb dX12_init_194 rfl (lv_at hl 0 rfl) ?_
  refine lv_aload_n hx hb dX12_init_195 rfl (lv_at hl 1 rfl) ?_
  refine va_get (D := D) (ci := 11) (v := .ref q_1126) (C := RX12) (T := TX12) (N := 48) hx hb hts k6 hown hK.1 hP 15 rfl rfl 15 (by decide) k8 (fun _ h9 => h9) rfl dX12_init_196 ?_
  refine lv_iload_n hx hb dX12_init_199 rfl (lv_at hl 0 rfl) ?_
  refine va_iald hx hb hK.1 hP 16 0 rfl rfl (rg_in (⟨by decide, by decide⟩ : rg 33 33 (33 : Int32)) (by decide) (by decide)) dX12_init_200 ?_
  refine lv_topi (fun x_1444 ex_1444 => ?_)
  refine va_iast hx hb hK.1 hP hD hS 1 0 rfl rfl (rg_in (⟨by decide, by decide⟩ : rg 33 33 (33 : Int32)) (by decide) (by decide)) dX12_init_201 (fun H locs hP hD hS => ?_)
  obtain ⟨g_1445, eg_1445⟩ : ∃ y : Nat → Int32, y = upd g_1436 (33 : Int32).toNatClampNeg (x_1444 : Int32) := ⟨_, rfl⟩
  rw [← eg_1445] at hP hD
  have s_1447 : sg 34 376 0 0 g_1445 := sg_out (sg_w s_1438 (by decide) (by decide) (by decide) (by decide)) eg_1445 (⟨by decide, by decide⟩ : rg 33 33 (33 : Int32)) (by decide) (by decide)
  have s_1448 : sg 0 1 0 10 g_1445 := sg_out s_1439 eg_1445 (⟨by decide, by decide⟩ : rg 33 33 (33 : Int32)) (by decide) (by decide)
  have s_1449 : sg 1 2 0 4 g_1445 := sg_out s_1440 eg_1445 (⟨by decide, by decide⟩ : rg 33 33 (33 : Int32)) (by decide) (by decide)
  have s_1450 : sg 2 3 0 5 g_1445 := sg_out s_1441 eg_1445 (⟨by decide, by decide⟩ : rg 33 33 (33 : Int32)) (by decide) (by decide)
  have s_1451 : sg 3 4 3 3 g_1445 := sg_out s_1442 eg_1445 (⟨by decide, by decide⟩ : rg 33 33 (33 : Int32)) (by decide) (by decide)
  have s_1452 : sg 4 5 1 1 g_1445 := sg_out s_1443 eg_1445 (⟨by decide, by decide⟩ : rg 33 33 (33 : Int32)) (by decide) (by decide)
  have hP : va_P D vwCl [(aI ca q_1124 940 (fun _ => 0)), (aI ca q_1125 376 g_1445), (aI ca q_1127 752 (fun _ => 0)), (aI ca q_1128 360 (fun _ => 0)), (aI ca q_1129 45 (fun _ => 0)), (aJ ca q_1130 19 (fun _ => 0)), (aJ ca q_1131 19 (fun _ => 0)), (aJ ca q_1132 38 (fun _ => 0)), (aZ ca q_1133 2 (fun _ => 0)), (aI ca q_1135 10 (fun _ => 0)), (aZ ca q_1136 1024 (fun _ => 0)), (aI ca q_1137 64 (fun _ => 0)), (aI ca q_1138 80 (fun _ => 0)), (aI ca q_1139 4 (fun _ => 0)), (aI ca q_1140 240 (fun _ => 0)), (h0, .inr (11, [.int 0, .ref q_1124, .int 0, .int 0, .int 0, .int 0, .int 0, .int 0, .int 0, .int 0, .int 0, .int 0, .long 0, .int 0, .ref q_1125, .ref q_1126, .ref q_1127, .ref q_1128, .ref q_1129, .ref q_1130, .ref q_1131, .ref q_1132, .ref q_1133, .ref q_1134, .int 0, .int 0, .int 0, .int (-1), .int (-1), .int (-1), .ref q_1135, .int (-1), .int (-1), .ref q_1136, .int (-1), .int (-1), .ref q_1137, .int 0, .int 0, .ref q_1138, .ref q_1139, .int 0, .int 0, .ref q_1140, .int 0, .int 0, .int 0, .int 0])), (aI ca q_1126 89 u_1143), (aZ ca q_1134 2 u_1144)] H := hP
  have hD : va_D A [(aI ca q_1124 940 (fun _ => 0)), (aI ca q_1125 376 g_1445), (aI ca q_1127 752 (fun _ => 0)), (aI ca q_1128 360 (fun _ => 0)), (aI ca q_1129 45 (fun _ => 0)), (aJ ca q_1130 19 (fun _ => 0)), (aJ ca q_1131 19 (fun _ => 0)), (aJ ca q_1132 38 (fun _ => 0)), (aZ ca q_1133 2 (fun _ => 0)), (aI ca q_1135 10 (fun _ => 0)), (aZ ca q_1136 1024 (fun _ => 0)), (aI ca q_1137 64 (fun _ => 0)), (aI ca q_1138 80 (fun _ => 0)), (aI ca q_1139 4 (fun _ => 0)), (aI ca q_1140 240 (fun _ => 0)), (h0, .inr (11, [.int 0, .ref q_1124, .int 0, .int 0, .int 0, .int 0, .int 0, .int 0, .int 0, .int 0, .int 0, .int 0, .long 0, .int 0, .ref q_1125, .ref q_1126, .ref q_1127, .ref q_1128, .ref q_1129, .ref q_1130, .ref q_1131, .ref q_1132, .ref q_1133, .ref q_1134, .int 0, .int 0, .int 0, .int (-1), .int (-1), .int (-1), .ref q_1135, .int (-1), .int (-1), .ref q_1136, .int (-1), .int (-1), .ref q_1137, .int 0, .int 0, .ref q_1138, .ref q_1139, .int 0, .int 0, .ref q_1140, .int 0, .int 0, .int 0, .int 0])), (aI ca q_1126 89 u_1143), (aZ ca q_1134 2 u_1144)] := hD
  refine lv_iinc (v := 34) (lv' := [(1, .int 34), (0, .ref h0)]) hx hb dX12_init_202 hl (k := 0) rfl (by decide) (by decide) rfl (fun ls hl => ?_)
  refine lv_goto (tgt := 184) hx hb dX12_init_205 (by decide) ?_
  clear s_1438 s_1439 s_1440 s_1441 s_1442 s_1443 ex_1444 eg_1445
  refine lv_iload_n hx hb dX12_init_184 rfl (lv_at hl 0 rfl) ?_
  refine lv_bipush (v := 89) hx hb dX12_init_185 (by decide) ?_
  refine lv_icmp_ge (tgt := 208) hx hb dX12_init_187 (by decide) (fun c => absurd c (by decide)) (fun _ => ?_)
  refine lv_aload_n hx hb dX12_init_190 rfl (lv_at hl 1 rfl) ?_
  refine va_get (D := D) (ci := 11) (v := .ref q_1125) (C := RX12) (T := TX12) (N := 48) hx hb hts k6 hown hK.1 hP 15 rfl rfl 14 (by decide) k7 (fun _ h9 => h9) rfl dX12_init_191 ?_
  refine lv_iload_n hx hb dX12_init_194 rfl (lv_at hl 0 rfl) ?_
  refine lv_aload_n hx hb dX12_init_195 rfl (lv_at hl 1 rfl) ?_
  refine va_get (D := D) (ci := 11) (v := .ref q_1126) (C := RX12) (T := TX12) (N := 48) hx hb hts k6 hown hK.1 hP 15 rfl rfl 15 (by decide) k8 (fun _ h9 => h9) rfl dX12_init_196 ?_
  refine lv_iload_n hx hb dX12_init_199 rfl (lv_at hl 0 rfl) ?_
  refine va_iald hx hb hK.1 hP 16 0 rfl rfl (rg_in (⟨by decide, by decide⟩ : rg 34 34 (34 : Int32)) (by decide) (by decide)) dX12_init_200 ?_
  refine lv_topi (fun x_1453 ex_1453 => ?_)
  refine va_iast hx hb hK.1 hP hD hS 1 0 rfl rfl (rg_in (⟨by decide, by decide⟩ : rg 34 34 (34 : Int32)) (by decide) (by decide)) dX12_init_201 (fun H locs hP hD hS => ?_)
  obtain ⟨g_1454, eg_1454⟩ : ∃ y : Nat → Int32, y = upd g_1445 (34 : Int32).toNatClampNeg (x_1453 : Int32) := ⟨_, rfl⟩
  rw [← eg_1454] at hP hD
  have s_1456 : sg 35 376 0 0 g_1454 := sg_out (sg_w s_1447 (by decide) (by decide) (by decide) (by decide)) eg_1454 (⟨by decide, by decide⟩ : rg 34 34 (34 : Int32)) (by decide) (by decide)
  have s_1457 : sg 0 1 0 10 g_1454 := sg_out s_1448 eg_1454 (⟨by decide, by decide⟩ : rg 34 34 (34 : Int32)) (by decide) (by decide)
  have s_1458 : sg 1 2 0 4 g_1454 := sg_out s_1449 eg_1454 (⟨by decide, by decide⟩ : rg 34 34 (34 : Int32)) (by decide) (by decide)
  have s_1459 : sg 2 3 0 5 g_1454 := sg_out s_1450 eg_1454 (⟨by decide, by decide⟩ : rg 34 34 (34 : Int32)) (by decide) (by decide)
  have s_1460 : sg 3 4 3 3 g_1454 := sg_out s_1451 eg_1454 (⟨by decide, by decide⟩ : rg 34 34 (34 : Int32)) (by decide) (by decide)
  have s_1461 : sg 4 5 1 1 g_1454 := sg_out s_1452 eg_1454 (⟨by decide, by decide⟩ : rg 34 34 (34 : Int32)) (by decide) (by decide)
  have hP : va_P D vwCl [(aI ca q_1124 940 (fun _ => 0)), (aI ca q_1125 376 g_1454), (aI ca q_1127 752 (fun _ => 0)), (aI ca q_1128 360 (fun _ => 0)), (aI ca q_1129 45 (fun _ => 0)), (aJ ca q_1130 19 (fun _ => 0)), (aJ ca q_1131 19 (fun _ => 0)), (aJ ca q_1132 38 (fun _ => 0)), (aZ ca q_1133 2 (fun _ => 0)), (aI ca q_1135 10 (fun _ => 0)), (aZ ca q_1136 1024 (fun _ => 0)), (aI ca q_1137 64 (fun _ => 0)), (aI ca q_1138 80 (fun _ => 0)), (aI ca q_1139 4 (fun _ => 0)), (aI ca q_1140 240 (fun _ => 0)), (h0, .inr (11, [.int 0, .ref q_1124, .int 0, .int 0, .int 0, .int 0, .int 0, .int 0, .int 0, .int 0, .int 0, .int 0, .long 0, .int 0, .ref q_1125, .ref q_1126, .ref q_1127, .ref q_1128, .ref q_1129, .ref q_1130, .ref q_1131, .ref q_1132, .ref q_1133, .ref q_1134, .int 0, .int 0, .int 0, .int (-1), .int (-1), .int (-1), .ref q_1135, .int (-1), .int (-1), .ref q_1136, .int (-1), .int (-1), .ref q_1137, .int 0, .int 0, .ref q_1138, .ref q_1139, .int 0, .int 0, .ref q_1140, .int 0, .int 0, .int 0, .int 0])), (aI ca q_1126 89 u_1143), (aZ ca q_1134 2 u_1144)] H := hP
  have hD : va_D A [(aI ca q_1124 940 (fun _ => 0)), (aI ca q_1125 376 g_1454), (aI ca q_1127 752 (fun _ => 0)), (aI ca q_1128 360 (fun _ => 0)), (aI ca q_1129 45 (fun _ => 0)), (aJ ca q_1130 19 (fun _ => 0)), (aJ ca q_1131 19 (fun _ => 0)), (aJ ca q_1132 38 (fun _ => 0)), (aZ ca q_1133 2 (fun _ => 0)), (aI ca q_1135 10 (fun _ => 0)), (aZ ca q_1136 1024 (fun _ => 0)), (aI ca q_1137 64 (fun _ => 0)), (aI ca q_1138 80 (fun _ => 0)), (aI ca q_1139 4 (fun _ => 0)), (aI ca q_1140 240 (fun _ => 0)), (h0, .inr (11, [.int 0, .ref q_1124, .int 0, .int 0, .int 0, .int 0, .int 0, .int 0, .int 0, .int 0, .int 0, .int 0, .long 0, .int 0, .ref q_1125, .ref q_1126, .ref q_1127, .ref q_1128, .ref q_1129, .ref q_1130, .ref q_1131, .ref q_1132, .ref q_1133, .ref q_1134, .int 0, .int 0, .int 0, .int (-1), .int (-1), .int (-1), .ref q_1135, .int (-1), .int (-1), .ref q_1136, .int (-1), .int (-1), .ref q_1137, .int 0, .int 0, .ref q_1138, .ref q_1139, .int 0, .int 0, .ref q_1140, .int 0, .int 0, .int 0, .int 0])), (aI ca q_1126 89 u_1143), (aZ ca q_1134 2 u_1144)] := hD
  refine lv_iinc (v := 35) (lv' := [(1, .int 35), (0, .ref h0)]) hx hb dX12_init_202 hl (k := 0) rfl (by decide) (by decide) rfl (fun ls hl => ?_)
  refine lv_goto (tgt := 184) hx hb dX12_init_205 (by decide) ?_
  clear s_1447 s_1448 s_1449 s_1450 s_1451 s_1452 ex_1453 eg_1454
  refine lv_iload_n hx hb dX12_init_184 rfl (lv_at hl 0 rfl) ?_
  refine lv_bipush (v := 89) hx hb dX12_init_185 (by decide) ?_
  refine lv_icmp_ge (tgt := 208) hx hb dX12_init_187 (by decide) (fun c => absurd c (by decide)) (fun _ => ?_)
  refine lv_aload_n hx hb dX12_init_190 rfl (lv_at hl 1 rfl) ?_
  refine va_get (D := D) (ci := 11) (v := .ref q_1125) (C := RX12) (T := TX12) (N := 48) hx hb hts k6 hown hK.1 hP 15 rfl rfl 14 (by decide) k7 (fun _ h9 => h9) rfl dX12_init_191 ?_
  refine lv_iload_n hx hb dX12_init_194 rfl (lv_at hl 0 rfl) ?_
  refine lv_aload_n hx hb dX12_init_195 rfl (lv_at hl 1 rfl) ?_
  refine va_get (D := D) (ci := 11) (v := .ref q_1126) (C := RX12) (T := TX12) (N := 48) hx hb hts k6 hown hK.1 hP 15 rfl rfl 15 (by decide) k8 (fun _ h9 => h9) rfl dX12_init_196 ?_
  refine lv_iload_n hx hb dX12_init_199 rfl (lv_at hl 0 rfl) ?_
  refine va_iald hx hb hK.1 hP 16 0 rfl rfl (rg_in (⟨by decide, by decide⟩ : rg 35 35 (35 : Int32)) (by decide) (by decide)) dX12_init_200 ?_
  refine lv_topi (fun x_1462 ex_1462 => ?_)
  have h_1463 : rg 0 1023 x_1462 := by rw [ex_1462]; exact sg_at h_1148 (⟨by decide, by decide⟩ : rg 35 35 (35 : Int32)) (by decide) (by decide) (by decide)
  refine va_iast hx hb hK.1 hP hD hS 1 0 rfl rfl (rg_in (⟨by decide, by decide⟩ : rg 35 35 (35 : Int32)) (by decide) (by decide)) dX12_init_201 (fun H locs hP hD hS => ?_)
  obtain ⟨g_1464, eg_1464⟩ : ∃ y : Nat → Int32, y = upd g_1454 (35 : Int32).toNatClampNeg (x_1462 : Int32) := ⟨_, rfl⟩
  rw [← eg_1464] at hP hD
  have s_1466 : sg 36 376 0 0 g_1464 := sg_out (sg_w s_1456 (by decide) (by decide) (by decide) (by decide)) eg_1464 (⟨by decide, by decide⟩ : rg 35 35 (35 : Int32)) (by decide) (by decide)
  have s_1467 : sg 0 1 0 10 g_1464 := sg_out s_1457 eg_1464 (⟨by decide, by decide⟩ : rg 35 35 (35 : Int32)) (by decide) (by decide)
  have s_1468 : sg 1 2 0 4 g_1464 := sg_out s_1458 eg_1464 (⟨by decide, by decide⟩ : rg 35 35 (35 : Int32)) (by decide) (by decide)
  have s_1469 : sg 2 3 0 5 g_1464 := sg_out s_1459 eg_1464 (⟨by decide, by decide⟩ : rg 35 35 (35 : Int32)) (by decide) (by decide)
  have s_1470 : sg 3 4 3 3 g_1464 := sg_out s_1460 eg_1464 (⟨by decide, by decide⟩ : rg 35 35 (35 : Int32)) (by decide) (by decide)
  have s_1471 : sg 4 5 1 1 g_1464 := sg_out s_1461 eg_1464 (⟨by decide, by decide⟩ : rg 35 35 (35 : Int32)) (by decide) (by decide)
  have s_1472 : sg 35 36 0 1023 g_1464 := sg_one eg_1464 h_1463
  have hP : va_P D vwCl [(aI ca q_1124 940 (fun _ => 0)), (aI ca q_1125 376 g_1464), (aI ca q_1127 752 (fun _ => 0)), (aI ca q_1128 360 (fun _ => 0)), (aI ca q_1129 45 (fun _ => 0)), (aJ ca q_1130 19 (fun _ => 0)), (aJ ca q_1131 19 (fun _ => 0)), (aJ ca q_1132 38 (fun _ => 0)), (aZ ca q_1133 2 (fun _ => 0)), (aI ca q_1135 10 (fun _ => 0)), (aZ ca q_1136 1024 (fun _ => 0)), (aI ca q_1137 64 (fun _ => 0)), (aI ca q_1138 80 (fun _ => 0)), (aI ca q_1139 4 (fun _ => 0)), (aI ca q_1140 240 (fun _ => 0)), (h0, .inr (11, [.int 0, .ref q_1124, .int 0, .int 0, .int 0, .int 0, .int 0, .int 0, .int 0, .int 0, .int 0, .int 0, .long 0, .int 0, .ref q_1125, .ref q_1126, .ref q_1127, .ref q_1128, .ref q_1129, .ref q_1130, .ref q_1131, .ref q_1132, .ref q_1133, .ref q_1134, .int 0, .int 0, .int 0, .int (-1), .int (-1), .int (-1), .ref q_1135, .int (-1), .int (-1), .ref q_1136, .int (-1), .int (-1), .ref q_1137, .int 0, .int 0, .ref q_1138, .ref q_1139, .int 0, .int 0, .ref q_1140, .int 0, .int 0, .int 0, .int 0])), (aI ca q_1126 89 u_1143), (aZ ca q_1134 2 u_1144)] H := hP
  have hD : va_D A [(aI ca q_1124 940 (fun _ => 0)), (aI ca q_1125 376 g_1464), (aI ca q_1127 752 (fun _ => 0)), (aI ca q_1128 360 (fun _ => 0)), (aI ca q_1129 45 (fun _ => 0)), (aJ ca q_1130 19 (fun _ => 0)), (aJ ca q_1131 19 (fun _ => 0)), (aJ ca q_1132 38 (fun _ => 0)), (aZ ca q_1133 2 (fun _ => 0)), (aI ca q_1135 10 (fun _ => 0)), (aZ ca q_1136 1024 (fun _ => 0)), (aI ca q_1137 64 (fun _ => 0)), (aI ca q_1138 80 (fun _ => 0)), (aI ca q_1139 4 (fun _ => 0)), (aI ca q_1140 240 (fun _ => 0)), (h0, .inr (11, [.int 0, .ref q_1124, .int 0, .int 0, .int 0, .int 0, .int 0, .int 0, .int 0, .int 0, .int 0, .int 0, .long 0, .int 0, .ref q_1125, .ref q_1126, .ref q_1127, .ref q_1128, .ref q_1129, .ref q_1130, .ref q_1131, .ref q_1132, .ref q_1133, .ref q_1134, .int 0, .int 0, .int 0, .int (-1), .int (-1), .int (-1), .ref q_1135, .int (-1), .int (-1), .ref q_1136, .int (-1), .int (-1), .ref q_1137, .int 0, .int 0, .ref q_1138, .ref q_1139, .int 0, .int 0, .ref q_1140, .int 0, .int 0, .int 0, .int 0])), (aI ca q_1126 89 u_1143), (aZ ca q_1134 2 u_1144)] := hD
  refine lv_iinc (v := 36) (lv' := [(1, .int 36), (0, .ref h0)]) hx hb dX12_init_202 hl (k := 0) rfl (by decide) (by decide) rfl (fun ls hl => ?_)
  refine lv_goto (tgt := 184) hx hb dX12_init_205 (by decide) ?_
  clear s_1456 s_1457 s_1458 s_1459 s_1460 s_1461 ex_1462 h_1463 eg_1464
  refine lv_iload_n hx hb dX12_init_184 rfl (lv_at hl 0 rfl) ?_
  refine lv_bipush (v := 89) hx hb dX12_init_185 (by decide) ?_
  refine lv_icmp_ge (tgt := 208) hx hb dX12_init_187 (by decide) (fun c => absurd c (by decide)) (fun _ => ?_)
  refine lv_aload_n hx hb dX12_init_190 rfl (lv_at hl 1 rfl) ?_
  refine va_get (D := D) (ci := 11) (v := .ref q_1125) (C := RX12) (T := TX12) (N := 48) hx hb hts k6 hown hK.1 hP 15 rfl rfl 14 (by decide) k7 (fun _ h9 => h9) rfl dX12_init_191 ?_
  refine lv_iload_n hx hb dX12_init_194 rfl (lv_at hl 0 rfl) ?_
  refine lv_aload_n hx hb dX12_init_195 rfl (lv_at hl 1 rfl) ?_
  refine va_get (D := D) (ci := 11) (v := .ref q_1126) (C := RX12) (T := TX12) (N := 48) hx hb hts k6 hown hK.1 hP 15 rfl rfl 15 (by decide) k8 (fun _ h9 => h9) rfl dX12_init_196 ?_
  refine lv_iload_n hx hb dX12_init_199 rfl (lv_at hl 0 rfl) ?_
  refine va_iald hx hb hK.1 hP 16 0 rfl rfl (rg_in (⟨by decide, by decide⟩ : rg 36 36 (36 : Int32)) (by decide) (by decide)) dX12_init_200 ?_
  refine lv_topi (fun x_1473 ex_1473 => ?_)
  refine va_iast hx hb hK.1 hP hD hS 1 0 rfl rfl (rg_in (⟨by decide, by decide⟩ : rg 36 36 (36 : Int32)) (by decide) (by decide)) dX12_init_201 (fun H locs hP hD hS => ?_)
  obtain ⟨g_1474, eg_1474⟩ : ∃ y : Nat → Int32, y = upd g_1464 (36 : Int32).toNatClampNeg (x_1473 : Int32) := ⟨_, rfl⟩
  rw [← eg_1474] at hP hD
  have s_1476 : sg 37 376 0 0 g_1474 := sg_out (sg_w s_1466 (by decide) (by decide) (by decide) (by decide)) eg_1474 (⟨by decide, by decide⟩ : rg 36 36 (36 : Int32)) (by decide) (by decide)
  have s_1477 : sg 0 1 0 10 g_1474 := sg_out s_1467 eg_1474 (⟨by decide, by decide⟩ : rg 36 36 (36 : Int32)) (by decide) (by decide)
  have s_1478 : sg 1 2 0 4 g_1474 := sg_out s_1468 eg_1474 (⟨by decide, by decide⟩ : rg 36 36 (36 : Int32)) (by decide) (by decide)
  have s_1479 : sg 2 3 0 5 g_1474 := sg_out s_1469 eg_1474 (⟨by decide, by decide⟩ : rg 36 36 (36 : Int32)) (by decide) (by decide)
  have s_1480 : sg 3 4 3 3 g_1474 := sg_out s_1470 eg_1474 (⟨by decide, by decide⟩ : rg 36 36 (36 : Int32)) (by decide) (by decide)
  have s_1481 : sg 4 5 1 1 g_1474 := sg_out s_1471 eg_1474 (⟨by decide, by decide⟩ : rg 36 36 (36 : Int32)) (by decide) (by decide)
  have s_1482 : sg 35 36 0 1023 g_1474 := sg_out s_1472 eg_1474 (⟨by decide, by decide⟩ : rg 36 36 (36 : Int32)) (by decide) (by decide)
  have hP : va_P D vwCl [(aI ca q_1124 940 (fun _ => 0)), (aI ca q_1125 376 g_1474), (aI ca q_1127 752 (fun _ => 0)), (aI ca q_1128 360 (fun _ => 0)), (aI ca q_1129 45 (fun _ => 0)), (aJ ca q_1130 19 (fun _ => 0)), (aJ ca q_1131 19 (fun _ => 0)), (aJ ca q_1132 38 (fun _ => 0)), (aZ ca q_1133 2 (fun _ => 0)), (aI ca q_1135 10 (fun _ => 0)), (aZ ca q_1136 1024 (fun _ => 0)), (aI ca q_1137 64 (fun _ => 0)), (aI ca q_1138 80 (fun _ => 0)), (aI ca q_1139 4 (fun _ => 0)), (aI ca q_1140 240 (fun _ => 0)), (h0, .inr (11, [.int 0, .ref q_1124, .int 0, .int 0, .int 0, .int 0, .int 0, .int 0, .int 0, .int 0, .int 0, .int 0, .long 0, .int 0, .ref q_1125, .ref q_1126, .ref q_1127, .ref q_1128, .ref q_1129, .ref q_1130, .ref q_1131, .ref q_1132, .ref q_1133, .ref q_1134, .int 0, .int 0, .int 0, .int (-1), .int (-1), .int (-1), .ref q_1135, .int (-1), .int (-1), .ref q_1136, .int (-1), .int (-1), .ref q_1137, .int 0, .int 0, .ref q_1138, .ref q_1139, .int 0, .int 0, .ref q_1140, .int 0, .int 0, .int 0, .int 0])), (aI ca q_1126 89 u_1143), (aZ ca q_1134 2 u_1144)] H := hP
  have hD : va_D A [(aI ca q_1124 940 (fun _ => 0)), (aI ca q_1125 376 g_1474), (aI ca q_1127 752 (fun _ => 0)), (aI ca q_1128 360 (fun _ => 0)), (aI ca q_1129 45 (fun _ => 0)), (aJ ca q_1130 19 (fun _ => 0)), (aJ ca q_1131 19 (fun _ => 0)), (aJ ca q_1132 38 (fun _ => 0)), (aZ ca q_1133 2 (fun _ => 0)), (aI ca q_1135 10 (fun _ => 0)), (aZ ca q_1136 1024 (fun _ => 0)), (aI ca q_1137 64 (fun _ => 0)), (aI ca q_1138 80 (fun _ => 0)), (aI ca q_1139 4 (fun _ => 0)), (aI ca q_1140 240 (fun _ => 0)), (h0, .inr (11, [.int 0, .ref q_1124, .int 0, .int 0, .int 0, .int 0, .int 0, .int 0, .int 0, .int 0, .int 0, .int 0, .long 0, .int 0, .ref q_1125, .ref q_1126, .ref q_1127, .ref q_1128, .ref q_1129, .ref q_1130, .ref q_1131, .ref q_1132, .ref q_1133, .ref q_1134, .int 0, .int 0, .int 0, .int (-1), .int (-1), .int (-1), .ref q_1135, .int (-1), .int (-1), .ref q_1136, .int (-1), .int (-1), .ref q_1137, .int 0, .int 0, .ref q_1138, .ref q_1139, .int 0, .int 0, .ref q_1140, .int 0, .int 0, .int 0, .int 0])), (aI ca q_1126 89 u_1143), (aZ ca q_1134 2 u_1144)] := hD
  refine lv_iinc (v := 37) (lv' := [(1, .int 37), (0, .ref h0)]) hx hb dX12_init_202 hl (k := 0) rfl (by decide) (by decide) rfl (fun ls hl => ?_)
  refine lv_goto (tgt := 184) hx hb dX12_init_205 (by decide) ?_
  clear s_1466 s_1467 s_1468 s_1469 s_1470 s_1471 s_1472 ex_1473 eg_1474
  refine lv_iload_n hx hb dX12_init_184 rfl (lv_at hl 0 rfl) ?_
  refine lv_bipush (v := 89) hx hb dX12_init_185 (by decide) ?_
  refine lv_icmp_ge (tgt := 208) hx hb dX12_init_187 (by decide) (fun c => absurd c (by decide)) (fun _ => ?_)
  refine lv_aload_n hx hb dX12_init_190 rfl (lv_at hl 1 rfl) ?_
  refine va_get (D := D) (ci := 11) (v := .ref q_1125) (C := RX12) (T := TX12) (N := 48) hx hb hts k6 hown hK.1 hP 15 rfl rfl 14 (by decide) k7 (fun _ h9 => h9) rfl dX12_init_191 ?_
  refine lv_iload_n hx hb dX12_init_194 rfl (lv_at hl 0 rfl) ?_
  refine lv_aload_n hx hb dX12_init_195 rfl (lv_at hl 1 rfl) ?_
  refine va_get (D := D) (ci := 11) (v := .ref q_1126) (C := RX12) (T := TX12) (N := 48) hx hb hts k6 hown hK.1 hP 15 rfl rfl 15 (by decide) k8 (fun _ h9 => h9) rfl dX12_init_196 ?_
  refine lv_iload_n hx hb dX12_init_199 rfl (lv_at hl 0 rfl) ?_
  refine va_iald hx hb hK.1 hP 16 0 rfl rfl (rg_in (⟨by decide, by decide⟩ : rg 37 37 (37 : Int32)) (by decide) (by decide)) dX12_init_200 ?_
  refine lv_topi (fun x_1483 ex_1483 => ?_)
  refine va_iast hx hb hK.1 hP hD hS 1 0 rfl rfl (rg_in (⟨by decide, by decide⟩ : rg 37 37 (37 : Int32)) (by decide) (by decide)) dX12_init_201 (fun H locs hP hD hS => ?_)
  obtain ⟨g_1484, eg_1484⟩ : ∃ y : Nat → Int32, y = upd g_1474 (37 : Int32).toNatClampNeg (x_1483 : Int32) := ⟨_, rfl⟩
  rw [← eg_1484] at hP hD
  have s_1486 : sg 38 376 0 0 g_1484 := sg_out (sg_w s_1476 (by decide) (by decide) (by decide) (by decide)) eg_1484 (⟨by decide, by decide⟩ : rg 37 37 (37 : Int32)) (by decide) (by decide)
  have s_1487 : sg 0 1 0 10 g_1484 := sg_out s_1477 eg_1484 (⟨by decide, by decide⟩ : rg 37 37 (37 : Int32)) (by decide) (by decide)
  have s_1488 : sg 1 2 0 4 g_1484 := sg_out s_1478 eg_1484 (⟨by decide, by decide⟩ : rg 37 37 (37 : Int32)) (by decide) (by decide)
  have s_1489 : sg 2 3 0 5 g_1484 := sg_out s_1479 eg_1484 (⟨by decide, by decide⟩ : rg 37 37 (37 : Int32)) (by decide) (by decide)
  have s_1490 : sg 3 4 3 3 g_1484 := sg_out s_1480 eg_1484 (⟨by decide, by decide⟩ : rg 37 37 (37 : Int32)) (by decide) (by decide)
  have s_1491 : sg 4 5 1 1 g_1484 := sg_out s_1481 eg_1484 (⟨by decide, by decide⟩ : rg 37 37 (37 : Int32)) (by decide) (by decide)
  have s_1492 : sg 35 36 0 1023 g_1484 := sg_out s_1482 eg_1484 (⟨by decide, by decide⟩ : rg 37 37 (37 : Int32)) (by decide) (by decide)
  have hP : va_P D vwCl [(aI ca q_1124 940 (fun _ => 0)), (aI ca q_1125 376 g_1484), (aI ca q_1127 752 (fun _ => 0)), (aI ca q_1128 360 (fun _ => 0)), (aI ca q_1129 45 (fun _ => 0)), (aJ ca q_1130 19 (fun _ => 0)), (aJ ca q_1131 19 (fun _ => 0)), (aJ ca q_1132 38 (fun _ => 0)), (aZ ca q_1133 2 (fun _ => 0)), (aI ca q_1135 10 (fun _ => 0)), (aZ ca q_1136 1024 (fun _ => 0)), (aI ca q_1137 64 (fun _ => 0)), (aI ca q_1138 80 (fun _ => 0)), (aI ca q_1139 4 (fun _ => 0)), (aI ca q_1140 240 (fun _ => 0)), (h0, .inr (11, [.int 0, .ref q_1124, .int 0, .int 0, .int 0, .int 0, .int 0, .int 0, .int 0, .int 0, .int 0, .int 0, .long 0, .int 0, .ref q_1125, .ref q_1126, .ref q_1127, .ref q_1128, .ref q_1129, .ref q_1130, .ref q_1131, .ref q_1132, .ref q_1133, .ref q_1134, .int 0, .int 0, .int 0, .int (-1), .int (-1), .int (-1), .ref q_1135, .int (-1), .int (-1), .ref q_1136, .int (-1), .int (-1), .ref q_1137, .int 0, .int 0, .ref q_1138, .ref q_1139, .int 0, .int 0, .ref q_1140, .int 0, .int 0, .int 0, .int 0])), (aI ca q_1126 89 u_1143), (aZ ca q_1134 2 u_1144)] H := hP
  have hD : va_D A [(aI ca q_1124 940 (fun _ => 0)), (aI ca q_1125 376 g_1484), (aI ca q_1127 752 (fun _ => 0)), (aI ca q_1128 360 (fun _ => 0)), (aI ca q_1129 45 (fun _ => 0)), (aJ ca q_1130 19 (fun _ => 0)), (aJ ca q_1131 19 (fun _ => 0)), (aJ ca q_1132 38 (fun _ => 0)), (aZ ca q_1133 2 (fun _ => 0)), (aI ca q_1135 10 (fun _ => 0)), (aZ ca q_1136 1024 (fun _ => 0)), (aI ca q_1137 64 (fun _ => 0)), (aI ca q_1138 80 (fun _ => 0)), (aI ca q_1139 4 (fun _ => 0)), (aI ca q_1140 240 (fun _ => 0)), (h0, .inr (11, [.int 0, .ref q_1124, .int 0, .int 0, .int 0, .int 0, .int 0, .int 0, .int 0, .int 0, .int 0, .int 0, .long 0, .int 0, .ref q_1125, .ref q_1126, .ref q_1127, .ref q_1128, .ref q_1129, .ref q_1130, .ref q_1131, .ref q_1132, .ref q_1133, .ref q_1134, .int 0, .int 0, .int 0, .int (-1), .int (-1), .int (-1), .ref q_1135, .int (-1), .int (-1), .ref q_1136, .int (-1), .int (-1), .ref q_1137, .int 0, .int 0, .ref q_1138, .ref q_1139, .int 0, .int 0, .ref q_1140, .int 0, .int 0, .int 0, .int 0])), (aI ca q_1126 89 u_1143), (aZ ca q_1134 2 u_1144)] := hD
  refine lv_iinc (v := 38) (lv' := [(1, .int 38), (0, .ref h0)]) hx hb dX12_init_202 hl (k := 0) rfl (by decide) (by decide) rfl (fun ls hl => ?_)
  refine lv_goto (tgt := 184) hx hb dX12_init_205 (by decide) ?_
  clear s_1476 s_1477 s_1478 s_1479 s_1480 s_1481 s_1482 ex_1483 eg_1484
  refine lv_iload_n hx hb dX12_init_184 rfl (lv_at hl 0 rfl) ?_
  refine lv_bipush (v := 89) hx hb dX12_init_185 (by decide) ?_
  refine lv_icmp_ge (tgt := 208) hx hb dX12_init_187 (by decide) (fun c => absurd c (by decide)) (fun _ => ?_)
  refine lv_aload_n hx hb dX12_init_190 rfl (lv_at hl 1 rfl) ?_
  refine va_get (D := D) (ci := 11) (v := .ref q_1125) (C := RX12) (T := TX12) (N := 48) hx hb hts k6 hown hK.1 hP 15 rfl rfl 14 (by decide) k7 (fun _ h9 => h9) rfl dX12_init_191 ?_
  refine lv_iload_n hx hb dX12_init_194 rfl (lv_at hl 0 rfl) ?_
  refine lv_aload_n hx hb dX12_init_195 rfl (lv_at hl 1 rfl) ?_
  refine va_get (D := D) (ci := 11) (v := .ref q_1126) (C := RX12) (T := TX12) (N := 48) hx hb hts k6 hown hK.1 hP 15 rfl rfl 15 (by decide) k8 (fun _ h9 => h9) rfl dX12_init_196 ?_
  refine lv_iload_n hx hb dX12_init_199 rfl (lv_at hl 0 rfl) ?_
  refine va_iald hx hb hK.1 hP 16 0 rfl rfl (rg_in (⟨by decide, by decide⟩ : rg 38 38 (38 : Int32)) (by decide) (by decide)) dX12_init_200 ?_
  refine lv_topi (fun x_1493 ex_1493 => ?_)
  refine va_iast hx hb hK.1 hP hD hS 1 0 rfl rfl (rg_in (⟨by decide, by decide⟩ : rg 38 38 (38 : Int32)) (by decide) (by decide)) dX12_init_201 (fun H locs hP hD hS => ?_)
  obtain ⟨g_1494, eg_1494⟩ : ∃ y : Nat → Int32, y = upd g_1484 (38 : Int32).toNatClampNeg (x_1493 : Int32) := ⟨_, rfl⟩
  rw [← eg_1494] at hP hD
  have s_1496 : sg 39 376 0 0 g_1494 := sg_out (sg_w s_1486 (by decide) (by decide) (by decide) (by decide)) eg_1494 (⟨by decide, by decide⟩ : rg 38 38 (38 : Int32)) (by decide) (by decide)
  have s_1497 : sg 0 1 0 10 g_1494 := sg_out s_1487 eg_1494 (⟨by decide, by decide⟩ : rg 38 38 (38 : Int32)) (by decide) (by decide)
  have s_1498 : sg 1 2 0 4 g_1494 := sg_out s_1488 eg_1494 (⟨by decide, by decide⟩ : rg 38 38 (38 : Int32)) (by decide) (by decide)
  have s_1499 : sg 2 3 0 5 g_1494 := sg_out s_1489 eg_1494 (⟨by decide, by decide⟩ : rg 38 38 (38 : Int32)) (by decide) (by decide)
  have s_1500 : sg 3 4 3 3 g_1494 := sg_out s_1490 eg_1494 (⟨by decide, by decide⟩ : rg 38 38 (38 : Int32)) (by decide) (by decide)
  have s_1501 : sg 4 5 1 1 g_1494 := sg_out s_1491 eg_1494 (⟨by decide, by decide⟩ : rg 38 38 (38 : Int32)) (by decide) (by decide)
  have s_1502 : sg 35 36 0 1023 g_1494 := sg_out s_1492 eg_1494 (⟨by decide, by decide⟩ : rg 38 38 (38 : Int32)) (by decide) (by decide)
  have hP : va_P D vwCl [(aI ca q_1124 940 (fun _ => 0)), (aI ca q_1125 376 g_1494), (aI ca q_1127 752 (fun _ => 0)), (aI ca q_1128 360 (fun _ => 0)), (aI ca q_1129 45 (fun _ => 0)), (aJ ca q_1130 19 (fun _ => 0)), (aJ ca q_1131 19 (fun _ => 0)), (aJ ca q_1132 38 (fun _ => 0)), (aZ ca q_1133 2 (fun _ => 0)), (aI ca q_1135 10 (fun _ => 0)), (aZ ca q_1136 1024 (fun _ => 0)), (aI ca q_1137 64 (fun _ => 0)), (aI ca q_1138 80 (fun _ => 0)), (aI ca q_1139 4 (fun _ => 0)), (aI ca q_1140 240 (fun _ => 0)), (h0, .inr (11, [.int 0, .ref q_1124, .int 0, .int 0, .int 0, .int 0, .int 0, .int 0, .int 0, .int 0, .int 0, .int 0, .long 0, .int 0, .ref q_1125, .ref q_1126, .ref q_1127, .ref q_1128, .ref q_1129, .ref q_1130, .ref q_1131, .ref q_1132, .ref q_1133, .ref q_1134, .int 0, .int 0, .int 0, .int (-1), .int (-1), .int (-1), .ref q_1135, .int (-1), .int (-1), .ref q_1136, .int (-1), .int (-1), .ref q_1137, .int 0, .int 0, .ref q_1138, .ref q_1139, .int 0, .int 0, .ref q_1140, .int 0, .int 0, .int 0, .int 0])), (aI ca q_1126 89 u_1143), (aZ ca q_1134 2 u_1144)] H := hP
  have hD : va_D A [(aI ca q_1124 940 (fun _ => 0)), (aI ca q_1125 376 g_1494), (aI ca q_1127 752 (fun _ => 0)), (aI ca q_1128 360 (fun _ => 0)), (aI ca q_1129 45 (fun _ => 0)), (aJ ca q_1130 19 (fun _ => 0)), (aJ ca q_1131 19 (fun _ => 0)), (aJ ca q_1132 38 (fun _ => 0)), (aZ ca q_1133 2 (fun _ => 0)), (aI ca q_1135 10 (fun _ => 0)), (aZ ca q_1136 1024 (fun _ => 0)), (aI ca q_1137 64 (fun _ => 0)), (aI ca q_1138 80 (fun _ => 0)), (aI ca q_1139 4 (fun _ => 0)), (aI ca q_1140 240 (fun _ => 0)), (h0, .inr (11, [.int 0, .ref q_1124, .int 0, .int 0, .int 0, .int 0, .int 0, .int 0, .int 0, .int 0, .int 0, .int 0, .long 0, .int 0, .ref q_1125, .ref q_1126, .ref q_1127, .ref q_1128, .ref q_1129, .ref q_1130, .ref q_1131, .ref q_1132, .ref q_1133, .ref q_1134, .int 0, .int 0, .int 0, .int (-1), .int (-1), .int (-1), .ref q_1135, .int (-1), .int (-1), .ref q_1136, .int (-1), .int (-1), .ref q_1137, .int 0, .int 0, .ref q_1138, .ref q_1139, .int 0, .int 0, .ref q_1140, .int 0, .int 0, .int 0, .int 0])), (aI ca q_1126 89 u_1143), (aZ ca q_1134 2 u_1144)] := hD
  refine lv_iinc (v := 39) (lv' := [(1, .int 39), (0, .ref h0)]) hx hb dX12_init_202 hl (k := 0) rfl (by decide) (by decide) rfl (fun ls hl => ?_)
  refine lv_goto (tgt := 184) hx hb dX12_init_205 (by decide) ?_
  clear s_1486 s_1487 s_1488 s_1489 s_1490 s_1491 s_1492 ex_1493 eg_1494
  refine lv_iload_n hx hb dX12_init_184 rfl (lv_at hl 0 rfl) ?_
  refine lv_bipush (v := 89) hx hb dX12_init_185 (by decide) ?_
  refine lv_icmp_ge (tgt := 208) hx hb dX12_init_187 (by decide) (fun c => absurd c (by decide)) (fun _ => ?_)
  refine lv_aload_n hx hb dX12_init_190 rfl (lv_at hl 1 rfl) ?_
  refine va_get (D := D) (ci := 11) (v := .ref q_1125) (C := RX12) (T := TX12) (N := 48) hx hb hts k6 hown hK.1 hP 15 rfl rfl 14 (by decide) k7 (fun _ h9 => h9) rfl dX12_init_191 ?_
  refine lv_iload_n hx hb dX12_init_194 rfl (lv_at hl 0 rfl) ?_
  refine lv_aload_n hx hb dX12_init_195 rfl (lv_at hl 1 rfl) ?_
  refine va_get (D := D) (ci := 11) (v := .ref q_1126) (C := RX12) (T := TX12) (N := 48) hx hb hts k6 hown hK.1 hP 15 rfl rfl 15 (by decide) k8 (fun _ h9 => h9) rfl dX12_init_196 ?_
  refine lv_iload_n hx hb dX12_init_199 rfl (lv_at hl 0 rfl) ?_
  refine va_iald hx hb hK.1 hP 16 0 rfl rfl (rg_in (⟨by decide, by decide⟩ : rg 39 39 (39 : Int32)) (by decide) (by decide)) dX12_init_200 ?_
  refine lv_topi (fun x_1503 ex_1503 => ?_)
  refine va_iast hx hb hK.1 hP hD hS 1 0 rfl rfl (rg_in (⟨by decide, by decide⟩ : rg 39 39 (39 : Int32)) (by decide) (by decide)) dX12_init_201 (fun H locs hP hD hS => ?_)
  obtain ⟨g_1504, eg_1504⟩ : ∃ y : Nat → Int32, y = upd g_1494 (39 : Int32).toNatClampNeg (x_1503 : Int32) := ⟨_, rfl⟩
  rw [← eg_1504] at hP hD
  have s_1506 : sg 40 376 0 0 g_1504 := sg_out (sg_w s_1496 (by decide) (by decide) (by decide) (by decide)) eg_1504 (⟨by decide, by decide⟩ : rg 39 39 (39 : Int32)) (by decide) (by decide)
  have s_1507 : sg 0 1 0 10 g_1504 := sg_out s_1497 eg_1504 (⟨by decide, by decide⟩ : rg 39 39 (39 : Int32)) (by decide) (by decide)
  have s_1508 : sg 1 2 0 4 g_1504 := sg_out s_1498 eg_1504 (⟨by decide, by decide⟩ : rg 39 39 (39 : Int32)) (by decide) (by decide)
  have s_1509 : sg 2 3 0 5 g_1504 := sg_out s_1499 eg_1504 (⟨by decide, by decide⟩ : rg 39 39 (39 : Int32)) (by decide) (by decide)
  have s_1510 : sg 3 4 3 3 g_1504 := sg_out s_1500 eg_1504 (⟨by decide, by decide⟩ : rg 39 39 (39 : Int32)) (by decide) (by decide)
  have s_1511 : sg 4 5 1 1 g_1504 := sg_out s_1501 eg_1504 (⟨by decide, by decide⟩ : rg 39 39 (39 : Int32)) (by decide) (by decide)
  have s_1512 : sg 35 36 0 1023 g_1504 := sg_out s_1502 eg_1504 (⟨by decide, by decide⟩ : rg 39 39 (39 : Int32)) (by decide) (by decide)
  have hP : va_P D vwCl [(aI ca q_1124 940 (fun _ => 0)), (aI ca q_1125 376 g_1504), (aI ca q_1127 752 (fun _ => 0)), (aI ca q_1128 360 (fun _ => 0)), (aI ca q_1129 45 (fun _ => 0)), (aJ ca q_1130 19 (fun _ => 0)), (aJ ca q_1131 19 (fun _ => 0)), (aJ ca q_1132 38 (fun _ => 0)), (aZ ca q_1133 2 (fun _ => 0)), (aI ca q_1135 10 (fun _ => 0)), (aZ ca q_1136 1024 (fun _ => 0)), (aI ca q_1137 64 (fun _ => 0)), (aI ca q_1138 80 (fun _ => 0)), (aI ca q_1139 4 (fun _ => 0)), (aI ca q_1140 240 (fun _ => 0)), (h0, .inr (11, [.int 0, .ref q_1124, .int 0, .int 0, .int 0, .int 0, .int 0, .int 0, .int 0, .int 0, .int 0, .int 0, .long 0, .int 0, .ref q_1125, .ref q_1126, .ref q_1127, .ref q_1128, .ref q_1129, .ref q_1130, .ref q_1131, .ref q_1132, .ref q_1133, .ref q_1134, .int 0, .int 0, .int 0, .int (-1), .int (-1), .int (-1), .ref q_1135, .int (-1), .int (-1), .ref q_1136, .int (-1), .int (-1), .ref q_1137, .int 0, .int 0, .ref q_1138, .ref q_1139, .int 0, .int 0, .ref q_1140, .int 0, .int 0, .int 0, .int 0])), (aI ca q_1126 89 u_1143), (aZ ca q_1134 2 u_1144)] H := hP
  have hD : va_D A [(aI ca q_1124 940 (fun _ => 0)), (aI ca q_1125 376 g_1504), (aI ca q_1127 752 (fun _ => 0)), (aI ca q_1128 360 (fun _ => 0)), (aI ca q_1129 45 (fun _ => 0)), (aJ ca q_1130 19 (fun _ => 0)), (aJ ca q_1131 19 (fun _ => 0)), (aJ ca q_1132 38 (fun _ => 0)), (aZ ca q_1133 2 (fun _ => 0)), (aI ca q_1135 10 (fun _ => 0)), (aZ ca q_1136 1024 (fun _ => 0)), (aI ca q_1137 64 (fun _ => 0)), (aI ca q_1138 80 (fun _ => 0)), (aI ca q_1139 4 (fun _ => 0)), (aI ca q_1140 240 (fun _ => 0)), (h0, .inr (11, [.int 0, .ref q_1124, .int 0, .int 0, .int 0, .int 0, .int 0, .int 0, .int 0, .int 0, .int 0, .int 0, .long 0, .int 0, .ref q_1125, .ref q_1126, .ref q_1127, .ref q_1128, .ref q_1129, .ref q_1130, .ref q_1131, .ref q_1132, .ref q_1133, .ref q_1134, .int 0, .int 0, .int 0, .int (-1), .int (-1), .int (-1), .ref q_1135, .int (-1), .int (-1), .ref q_1136, .int (-1), .int (-1), .ref q_1137, .int 0, .int 0, .ref q_1138, .ref q_1139, .int 0, .int 0, .ref q_1140, .int 0, .int 0, .int 0, .int 0])), (aI ca q_1126 89 u_1143), (aZ ca q_1134 2 u_1144)] := hD
  refine lv_iinc (v := 40) (lv' := [(1, .int 40), (0, .ref h0)]) hx hb dX12_init_202 hl (k := 0) rfl (by decide) (by decide) rfl (fun ls hl => ?_)
  refine lv_goto (tgt := 184) hx hb dX12_init_205 (by decide) ?_
  clear s_1496 s_1497 s_1498 s_1499 s_1500 s_1501 s_1502 ex_1503 eg_1504
  refine lv_iload_n hx hb dX12_init_184 rfl (lv_at hl 0 rfl) ?_
  refine lv_bipush (v := 89) hx hb dX12_init_185 (by decide) ?_
  refine lv_icmp_ge (tgt := 208) hx hb dX12_init_187 (by decide) (fun c => absurd c (by decide)) (fun _ => ?_)
  refine lv_aload_n hx hb dX12_init_190 rfl (lv_at hl 1 rfl) ?_
  refine va_get (D := D) (ci := 11) (v := .ref q_1125) (C := RX12) (T := TX12) (N := 48) hx hb hts k6 hown hK.1 hP 15 rfl rfl 14 (by decide) k7 (fun _ h9 => h9) rfl dX12_init_191 ?_
  refine lv_iload_n hx hb dX12_init_194 rfl (lv_at hl 0 rfl) ?_
  refine lv_aload_n hx hb dX12_init_195 rfl (lv_at hl 1 rfl) ?_
  refine va_get (D := D) (ci := 11) (v := .ref q_1126) (C := RX12) (T := TX12) (N := 48) hx hb hts k6 hown hK.1 hP 15 rfl rfl 15 (by decide) k8 (fun _ h9 => h9) rfl dX12_init_196 ?_
  refine lv_iload_n hx hb dX12_init_199 rfl (lv_at hl 0 rfl) ?_
  refine va_iald hx hb hK.1 hP 16 0 rfl rfl (rg_in (⟨by decide, by decide⟩ : rg 40 40 (40 : Int32)) (by decide) (by decide)) dX12_init_200 ?_
  refine lv_topi (fun x_1513 ex_1513 => ?_)
  refine va_iast hx hb hK.1 hP hD hS 1 0 rfl rfl (rg_in (⟨by decide, by decide⟩ : rg 40 40 (40 : Int32)) (by decide) (by decide)) dX12_init_201 (fun H locs hP hD hS => ?_)
  obtain ⟨g_1514, eg_1514⟩ : ∃ y : Nat → Int32, y = upd g_1504 (40 : Int32).toNatClampNeg (x_1513 : Int32) := ⟨_, rfl⟩
  rw [← eg_1514] at hP hD
  have s_1516 : sg 41 376 0 0 g_1514 := sg_out (sg_w s_1506 (by decide) (by decide) (by decide) (by decide)) eg_1514 (⟨by decide, by decide⟩ : rg 40 40 (40 : Int32)) (by decide) (by decide)
  have s_1517 : sg 0 1 0 10 g_1514 := sg_out s_1507 eg_1514 (⟨by decide, by decide⟩ : rg 40 40 (40 : Int32)) (by decide) (by decide)
  have s_1518 : sg 1 2 0 4 g_1514 := sg_out s_1508 eg_1514 (⟨by decide, by decide⟩ : rg 40 40 (40 : Int32)) (by decide) (by decide)
  have s_1519 : sg 2 3 0 5 g_1514 := sg_out s_1509 eg_1514 (⟨by decide, by decide⟩ : rg 40 40 (40 : Int32)) (by decide) (by decide)
  have s_1520 : sg 3 4 3 3 g_1514 := sg_out s_1510 eg_1514 (⟨by decide, by decide⟩ : rg 40 40 (40 : Int32)) (by decide) (by decide)
  have s_1521 : sg 4 5 1 1 g_1514 := sg_out s_1511 eg_1514 (⟨by decide, by decide⟩ : rg 40 40 (40 : Int32)) (by decide) (by decide)
  have s_1522 : sg 35 36 0 1023 g_1514 := sg_out s_1512 eg_1514 (⟨by decide, by decide⟩ : rg 40 40 (40 : Int32)) (by decide) (by decide)
  have hP : va_P D vwCl [(aI ca q_1124 940 (fun _ => 0)), (aI ca q_1125 376 g_1514), (aI ca q_1127 752 (fun _ => 0)), (aI ca q_1128 360 (fun _ => 0)), (aI ca q_1129 45 (fun _ => 0)), (aJ ca q_1130 19 (fun _ => 0)), (aJ ca q_1131 19 (fun _ => 0)), (aJ ca q_1132 38 (fun _ => 0)), (aZ ca q_1133 2 (fun _ => 0)), (aI ca q_1135 10 (fun _ => 0)), (aZ ca q_1136 1024 (fun _ => 0)), (aI ca q_1137 64 (fun _ => 0)), (aI ca q_1138 80 (fun _ => 0)), (aI ca q_1139 4 (fun _ => 0)), (aI ca q_1140 240 (fun _ => 0)), (h0, .inr (11, [.int 0, .ref q_1124, .int 0, .int 0, .int 0, .int 0, .int 0, .int 0, .int 0, .int 0, .int 0, .int 0, .long 0, .int 0, .ref q_1125, .ref q_1126, .ref q_1127, .ref q_1128, .ref q_1129, .ref q_1130, .ref q_1131, .ref q_1132, .ref q_1133, .ref q_1134, .int 0, .int 0, .int 0, .int (-1), .int (-1), .int (-1), .ref q_1135, .int (-1), .int (-1), .ref q_1136, .int (-1), .int (-1), .ref q_1137, .int 0, .int 0, .ref q_1138, .ref q_1139, .int 0, .int 0, .ref q_1140, .int 0, .int 0, .int 0, .int 0])), (aI ca q_1126 89 u_1143), (aZ ca q_1134 2 u_1144)] H := hP
  have hD : va_D A [(aI ca q_1124 940 (fun _ => 0)), (aI ca q_1125 376 g_1514), (aI ca q_1127 752 (fun _ => 0)), (aI ca q_1128 360 (fun _ => 0)), (aI ca q_1129 45 (fun _ => 0)), (aJ ca q_1130 19 (fun _ => 0)), (aJ ca q_1131 19 (fun _ => 0)), (aJ ca q_1132 38 (fun _ => 0)), (aZ ca q_1133 2 (fun _ => 0)), (aI ca q_1135 10 (fun _ => 0)), (aZ ca q_1136 1024 (fun _ => 0)), (aI ca q_1137 64 (fun _ => 0)), (aI ca q_1138 80 (fun _ => 0)), (aI ca q_1139 4 (fun _ => 0)), (aI ca q_1140 240 (fun _ => 0)), (h0, .inr (11, [.int 0, .ref q_1124, .int 0, .int 0, .int 0, .int 0, .int 0, .int 0, .int 0, .int 0, .int 0, .int 0, .long 0, .int 0, .ref q_1125, .ref q_1126, .ref q_1127, .ref q_1128, .ref q_1129, .ref q_1130, .ref q_1131, .ref q_1132, .ref q_1133, .ref q_1134, .int 0, .int 0, .int 0, .int (-1), .int (-1), .int (-1), .ref q_1135, .int (-1), .int (-1), .ref q_1136, .int (-1), .int (-1), .ref q_1137, .int 0, .int 0, .ref q_1138, .ref q_1139, .int 0, .int 0, .ref q_1140, .int 0, .int 0, .int 0, .int 0])), (aI ca q_1126 89 u_1143), (aZ ca q_1134 2 u_1144)] := hD
  refine lv_iinc (v := 41) (lv' := [(1, .int 41), (0, .ref h0)]) hx hb dX12_init_202 hl (k := 0) rfl (by decide) (by decide) rfl (fun ls hl => ?_)
  refine lv_goto (tgt := 184) hx hb dX12_init_205 (by decide) ?_
  clear s_1506 s_1507 s_1508 s_1509 s_1510 s_1511 s_1512 ex_1513 eg_1514
  refine lv_iload_n hx hb dX12_init_184 rfl (lv_at hl 0 rfl) ?_
  refine lv_bipush (v := 89) hx hb dX12_init_185 (by decide) ?_
  refine lv_icmp_ge (tgt := 208) hx hb dX12_init_187 (by decide) (fun c => absurd c (by decide)) (fun _ => ?_)
  refine lv_aload_n hx hb dX12_init_190 rfl (lv_at hl 1 rfl) ?_
  refine va_get (D := D) (ci := 11) (v := .ref q_1125) (C := RX12) (T := TX12) (N := 48) hx hb hts k6 hown hK.1 hP 15 rfl rfl 14 (by decide) k7 (fun _ h9 => h9) rfl dX12_init_191 ?_
  refine lv_iload_n hx hb dX12_init_194 rfl (lv_at hl 0 rfl) ?_
  refine lv_aload_n hx hb dX12_init_195 rfl (lv_at hl 1 rfl) ?_
  refine va_get (D := D) (ci := 11) (v := .ref q_1126) (C := RX12) (T := TX12) (N := 48) hx hb hts k6 hown hK.1 hP 15 rfl rfl 15 (by decide) k8 (fun _ h9 => h9) rfl dX12_init_196 ?_
  refine lv_iload_n hx hb dX12_init_199 rfl (lv_at hl 0 rfl) ?_
  refine va_iald hx hb hK.1 hP 16 0 rfl rfl (rg_in (⟨by decide, by decide⟩ : rg 41 41 (41 : Int32)) (by decide) (by decide)) dX12_init_200 ?_
  refine lv_topi (fun x_1523 ex_1523 => ?_)
  refine va_iast hx hb hK.1 hP hD hS 1 0 rfl rfl (rg_in (⟨by decide, by decide⟩ : rg 41 41 (41 : Int32)) (by decide) (by decide)) dX12_init_201 (fun H locs hP hD hS => ?_)
  obtain ⟨g_1524, eg_1524⟩ : ∃ y : Nat → Int32, y = upd g_1514 (41 : Int32).toNatClampNeg (x_1523 : Int32) := ⟨_, rfl⟩
  rw [← eg_1524] at hP hD
  have s_1526 : sg 42 376 0 0 g_1524 := sg_out (sg_w s_1516 (by decide) (by decide) (by decide) (by decide)) eg_1524 (⟨by decide, by decide⟩ : rg 41 41 (41 : Int32)) (by decide) (by decide)
  have s_1527 : sg 0 1 0 10 g_1524 := sg_out s_1517 eg_1524 (⟨by decide, by decide⟩ : rg 41 41 (41 : Int32)) (by decide) (by decide)
  have s_1528 : sg 1 2 0 4 g_1524 := sg_out s_1518 eg_1524 (⟨by decide, by decide⟩ : rg 41 41 (41 : Int32)) (by decide) (by decide)
  have s_1529 : sg 2 3 0 5 g_1524 := sg_out s_1519 eg_1524 (⟨by decide, by decide⟩ : rg 41 41 (41 : Int32)) (by decide) (by decide)
  have s_1530 : sg 3 4 3 3 g_1524 := sg_out s_1520 eg_1524 (⟨by decide, by decide⟩ : rg 41 41 (41 : Int32)) (by decide) (by decide)
  have s_1531 : sg 4 5 1 1 g_1524 := sg_out s_1521 eg_1524 (⟨by decide, by decide⟩ : rg 41 41 (41 : Int32)) (by decide) (by decide)
  have s_1532 : sg 35 36 0 1023 g_1524 := sg_out s_1522 eg_1524 (⟨by decide, by decide⟩ : rg 41 41 (41 : Int32)) (by decide) (by decide)
  have hP : va_P D vwCl [(aI ca q_1124 940 (fun _ => 0)), (aI ca q_1125 376 g_1524), (aI ca q_1127 752 (fun _ => 0)), (aI ca q_1128 360 (fun _ => 0)), (aI ca q_1129 45 (fun _ => 0)), (aJ ca q_1130 19 (fun _ => 0)), (aJ ca q_1131 19 (fun _ => 0)), (aJ ca q_1132 38 (fun _ => 0)), (aZ ca q_1133 2 (fun _ => 0)), (aI ca q_1135 10 (fun _ => 0)), (aZ ca q_1136 1024 (fun _ => 0)), (aI ca q_1137 64 (fun _ => 0)), (aI ca q_1138 80 (fun _ => 0)), (aI ca q_1139 4 (fun _ => 0)), (aI ca q_1140 240 (fun _ => 0)), (h0, .inr (11, [.int 0, .ref q_1124, .int 0, .int 0, .int 0, .int 0, .int 0, .int 0, .int 0, .int 0, .int 0, .int 0, .long 0, .int 0, .ref q_1125, .ref q_1126, .ref q_1127, .ref q_1128, .ref q_1129, .ref q_1130, .ref q_1131, .ref q_1132, .ref q_1133, .ref q_1134, .int 0, .int 0, .int 0, .int (-1), .int (-1), .int (-1), .ref q_1135, .int (-1), .int (-1), .ref q_1136, .int (-1), .int (-1), .ref q_1137, .int 0, .int 0, .ref q_1138, .ref q_1139, .int 0, .int 0, .ref q_1140, .int 0, .int 0, .int 0, .int 0])), (aI ca q_1126 89 u_1143), (aZ ca q_1134 2 u_1144)] H := hP
  have hD : va_D A [(aI ca q_1124 940 (fun _ => 0)), (aI ca q_1125 376 g_1524), (aI ca q_1127 752 (fun _ => 0)), (aI ca q_1128 360 (fun _ => 0)), (aI ca q_1129 45 (fun _ => 0)), (aJ ca q_1130 19 (fun _ => 0)), (aJ ca q_1131 19 (fun _ => 0)), (aJ ca q_1132 38 (fun _ => 0)), (aZ ca q_1133 2 (fun _ => 0)), (aI ca q_1135 10 (fun _ => 0)), (aZ ca q_1136 1024 (fun _ => 0)), (aI ca q_1137 64 (fun _ => 0)), (aI ca q_1138 80 (fun _ => 0)), (aI ca q_1139 4 (fun _ => 0)), (aI ca q_1140 240 (fun _ => 0)), (h0, .inr (11, [.int 0, .ref q_1124, .int 0, .int 0, .int 0, .int 0, .int 0, .int 0, .int 0, .int 0, .int 0, .int 0, .long 0, .int 0, .ref q_1125, .ref q_1126, .ref q_1127, .ref q_1128, .ref q_1129, .ref q_1130, .ref q_1131, .ref q_1132, .ref q_1133, .ref q_1134, .int 0, .int 0, .int 0, .int (-1), .int (-1), .int (-1), .ref q_1135, .int (-1), .int (-1), .ref q_1136, .int (-1), .int (-1), .ref q_1137, .int 0, .int 0, .ref q_1138, .ref q_1139, .int 0, .int 0, .ref q_1140, .int 0, .int 0, .int 0, .int 0])), (aI ca q_1126 89 u_1143), (aZ ca q_1134 2 u_1144)] := hD
  refine lv_iinc (v := 42) (lv' := [(1, .int 42), (0, .ref h0)]) hx hb dX12_init_202 hl (k := 0) rfl (by decide) (by decide) rfl (fun ls hl => ?_)
  refine lv_goto (tgt := 184) hx hb dX12_init_205 (by decide) ?_
  clear s_1516 s_1517 s_1518 s_1519 s_1520 s_1521 s_1522 ex_1523 eg_1524
  refine lv_iload_n hx hb dX12_init_184 rfl (lv_at hl 0 rfl) ?_
  refine lv_bipush (v := 89) hx hb dX12_init_185 (by decide) ?_
  refine lv_icmp_ge (tgt := 208) hx hb dX12_init_187 (by decide) (fun c => absurd c (by decide)) (fun _ => ?_)
  refine lv_aload_n hx hb dX12_init_190 rfl (lv_at hl 1 rfl) ?_
  refine va_get (D := D) (ci := 11) (v := .ref q_1125) (C := RX12) (T := TX12) (N := 48) hx hb hts k6 hown hK.1 hP 15 rfl rfl 14 (by decide) k7 (fun _ h9 => h9) rfl dX12_init_191 ?_
  refine lv_iload_n hx hb dX12_init_194 rfl (lv_at hl 0 rfl) ?_
  refine lv_aload_n hx hb dX12_init_195 rfl (lv_at hl 1 rfl) ?_
  refine va_get (D := D) (ci := 11) (v := .ref q_1126) (C := RX12) (T := TX12) (N := 48) hx hb hts k6 hown hK.1 hP 15 rfl rfl 15 (by decide) k8 (fun _ h9 => h9) rfl dX12_init_196 ?_
  refine lv_iload_n hx hb dX12_init_199 rfl (lv_at hl 0 rfl) ?_
  refine va_iald hx hb hK.1 hP 16 0 rfl rfl (rg_in (⟨by decide, by decide⟩ : rg 42 42 (42 : Int32)) (by decide) (by decide)) dX12_init_200 ?_
  refine lv_topi (fun x_1533 ex_1533 => ?_)
  refine va_iast hx hb hK.1 hP hD hS 1 0 rfl rfl (rg_in (⟨by decide, by decide⟩ : rg 42 42 (42 : Int32)) (by decide) (by decide)) dX12_init_201 (fun H locs hP hD hS => ?_)
  obtain ⟨g_1534, eg_1534⟩ : ∃ y : Nat → Int32, y = upd g_1524 (42 : Int32).toNatClampNeg (x_1533 : Int32) := ⟨_, rfl⟩
  rw [← eg_1534] at hP hD
  have s_1536 : sg 43 376 0 0 g_1534 := sg_out (sg_w s_1526 (by decide) (by decide) (by decide) (by decide)) eg_1534 (⟨by decide, by decide⟩ : rg 42 42 (42 : Int32)) (by decide) (by decide)
  have s_1537 : sg 0 1 0 10 g_1534 := sg_out s_1527 eg_1534 (⟨by decide, by decide⟩ : rg 42 42 (42 : Int32)) (by decide) (by decide)
  have s_1538 : sg 1 2 0 4 g_1534 := sg_out s_1528 eg_1534 (⟨by decide, by decide⟩ : rg 42 42 (42 : Int32)) (by decide) (by decide)
  have s_1539 : sg 2 3 0 5 g_1534 := sg_out s_1529 eg_1534 (⟨by decide, by decide⟩ : rg 42 42 (42 : Int32)) (by decide) (by decide)
  have s_1540 : sg 3 4 3 3 g_1534 := sg_out s_1530 eg_1534 (⟨by decide, by decide⟩ : rg 42 42 (42 : Int32)) (by decide) (by decide)
  have s_1541 : sg 4 5 1 1 g_1534 := sg_out s_1531 eg_1534 (⟨by decide, by decide⟩ : rg 42 42 (42 : Int32)) (by decide) (by decide)
  have s_1542 : sg 35 36 0 1023 g_1534 := sg_out s_1532 eg_1534 (⟨by decide, by decide⟩ : rg 42 42 (42 : Int32)) (by decide) (by decide)
  have hP : va_P D vwCl [(aI ca q_1124 940 (fun _ => 0)), (aI ca q_1125 376 g_1534), (aI ca q_1127 752 (fun _ => 0)), (aI ca q_1128 360 (fun _ => 0)), (aI ca q_1129 45 (fun _ => 0)), (aJ ca q_1130 19 (fun _ => 0)), (aJ ca q_1131 19 (fun _ => 0)), (aJ ca q_1132 38 (fun _ => 0)), (aZ ca q_1133 2 (fun _ => 0)), (aI ca q_1135 10 (fun _ => 0)), (aZ ca q_1136 1024 (fun _ => 0)), (aI ca q_1137 64 (fun _ => 0)), (aI ca q_1138 80 (fun _ => 0)), (aI ca q_1139 4 (fun _ => 0)), (aI ca q_1140 240 (fun _ => 0)), (h0, .inr (11, [.int 0, .ref q_1124, .int 0, .int 0, .int 0, .int 0, .int 0, .int 0, .int 0, .int 0, .int 0, .int 0, .long 0, .int 0, .ref q_1125, .ref q_1126, .ref q_1127, .ref q_1128, .ref q_1129, .ref q_1130, .ref q_1131, .ref q_1132, .ref q_1133, .ref q_1134, .int 0, .int 0, .int 0, .int (-1), .int (-1), .int (-1), .ref q_1135, .int (-1), .int (-1), .ref q_1136, .int (-1), .int (-1), .ref q_1137, .int 0, .int 0, .ref q_1138, .ref q_1139, .int 0, .int 0, .ref q_1140, .int 0, .int 0, .int 0, .int 0])), (aI ca q_1126 89 u_1143), (aZ ca q_1134 2 u_1144)] H := hP
  have hD : va_D A [(aI ca q_1124 940 (fun _ => 0)), (aI ca q_1125 376 g_1534), (aI ca q_1127 752 (fun _ => 0)), (aI ca q_1128 360 (fun _ => 0)), (aI ca q_1129 45 (fun _ => 0)), (aJ ca q_1130 19 (fun _ => 0)), (aJ ca q_1131 19 (fun _ => 0)), (aJ ca q_1132 38 (fun _ => 0)), (aZ ca q_1133 2 (fun _ => 0)), (aI ca q_1135 10 (fun _ => 0)), (aZ ca q_1136 1024 (fun _ => 0)), (aI ca q_1137 64 (fun _ => 0)), (aI ca q_1138 80 (fun _ => 0)), (aI ca q_1139 4 (fun _ => 0)), (aI ca q_1140 240 (fun _ => 0)), (h0, .inr (11, [.int 0, .ref q_1124, .int 0, .int 0, .int 0, .int 0, .int 0, .int 0, .int 0, .int 0, .int 0, .int 0, .long 0, .int 0, .ref q_1125, .ref q_1126, .ref q_1127, .ref q_1128, .ref q_1129, .ref q_1130, .ref q_1131, .ref q_1132, .ref q_1133, .ref q_1134, .int 0, .int 0, .int 0, .int (-1), .int (-1), .int (-1), .ref q_1135, .int (-1), .int (-1), .ref q_1136, .int (-1), .int (-1), .ref q_1137, .int 0, .int 0, .ref q_1138, .ref q_1139, .int 0, .int 0, .ref q_1140, .int 0, .int 0, .int 0, .int 0])), (aI ca q_1126 89 u_1143), (aZ ca q_1134 2 u_1144)] := hD
  refine lv_iinc (v := 43) (lv' := [(1, .int 43), (0, .ref h0)]) hx hb dX12_init_202 hl (k := 0) rfl (by decide) (by decide) rfl (fun ls hl => ?_)
  refine lv_goto (tgt := 184) hx hb dX12_init_205 (by decide) ?_
  clear s_1526 s_1527 s_1528 s_1529 s_1530 s_1531 s_1532 ex_1533 eg_1534
  refine lv_iload_n hx hb dX12_init_184 rfl (lv_at hl 0 rfl) ?_
  refine lv_bipush (v := 89) hx hb dX12_init_185 (by decide) ?_
  refine lv_icmp_ge (tgt := 208) hx hb dX12_init_187 (by decide) (fun c => absurd c (by decide)) (fun _ => ?_)
  refine lv_aload_n hx hb dX12_init_190 rfl (lv_at hl 1 rfl) ?_
  refine va_get (D := D) (ci := 11) (v := .ref q_1125) (C := RX12) (T := TX12) (N := 48) hx hb hts k6 hown hK.1 hP 15 rfl rfl 14 (by decide) k7 (fun _ h9 => h9) rfl dX12_init_191 ?_
  refine lv_iload_n hx hb dX12_init_194 rfl (lv_at hl 0 rfl) ?_
  refine lv_aload_n hx hb dX12_init_195 rfl (lv_at hl 1 rfl) ?_
  refine va_get (D := D) (ci := 11) (v := .ref q_1126) (C := RX12) (T := TX12) (N := 48) hx hb hts k6 hown hK.1 hP 15 rfl rfl 15 (by decide) k8 (fun _ h9 => h9) rfl dX12_init_196 ?_
  refine lv_iload_n hx hb dX12_init_199 rfl (lv_at hl 0 rfl) ?_
  refine va_iald hx hb hK.1 hP 16 0 rfl rfl (rg_in (⟨by decide, by decide⟩ : rg 43 43 (43 : Int32)) (by decide) (by decide)) dX12_init_200 ?_
  refine lv_topi (fun x_1543 ex_1543 => ?_)
  refine va_iast hx hb hK.1 hP hD hS 1 0 rfl rfl (rg_in (⟨by decide, by decide⟩ : rg 43 43 (43 : Int32)) (by decide) (by decide)) dX12_init_201 (fun H locs hP hD hS => ?_)
  obtain ⟨g_1544, eg_1544⟩ : ∃ y : Nat → Int32, y = upd g_1534 (43 : Int32).toNatClampNeg (x_1543 : Int32) := ⟨_, rfl⟩
  rw [← eg_1544] at hP hD
  have s_1546 : sg 44 376 0 0 g_1544 := sg_out (sg_w s_1536 (by decide) (by decide) (by decide) (by decide)) eg_1544 (⟨by decide, by decide⟩ : rg 43 43 (43 : Int32)) (by decide) (by decide)
  have s_1547 : sg 0 1 0 10 g_1544 := sg_out s_1537 eg_1544 (⟨by decide, by decide⟩ : rg 43 43 (43 : Int32)) (by decide) (by decide)
  have s_1548 : sg 1 2 0 4 g_1544 := sg_out s_1538 eg_1544 (⟨by decide, by decide⟩ : rg 43 43 (43 : Int32)) (by decide) (by decide)
  have s_1549 : sg 2 3 0 5 g_1544 := sg_out s_1539 eg_1544 (⟨by decide, by decide⟩ : rg 43 43 (43 : Int32)) (by decide) (by decide)
  have s_1550 : sg 3 4 3 3 g_1544 := sg_out s_1540 eg_1544 (⟨by decide, by decide⟩ : rg 43 43 (43 : Int32)) (by decide) (by decide)
  have s_1551 : sg 4 5 1 1 g_1544 := sg_out s_1541 eg_1544 (⟨by decide, by decide⟩ : rg 43 43 (43 : Int32)) (by decide) (by decide)
  have s_1552 : sg 35 36 0 1023 g_1544 := sg_out s_1542 eg_1544 (⟨by decide, by decide⟩ : rg 43 43 (43 : Int32)) (by decide) (by decide)
  have hP : va_P D vwCl [(aI ca q_1124 940 (fun _ => 0)), (aI ca q_1125 376 g_1544), (aI ca q_1127 752 (fun _ => 0)), (aI ca q_1128 360 (fun _ => 0)), (aI ca q_1129 45 (fun _ => 0)), (aJ ca q_1130 19 (fun _ => 0)), (aJ ca q_1131 19 (fun _ => 0)), (aJ ca q_1132 38 (fun _ => 0)), (aZ ca q_1133 2 (fun _ => 0)), (aI ca q_1135 10 (fun _ => 0)), (aZ ca q_1136 1024 (fun _ => 0)), (aI ca q_1137 64 (fun _ => 0)), (aI ca q_1138 80 (fun _ => 0)), (aI ca q_1139 4 (fun _ => 0)), (aI ca q_1140 240 (fun _ => 0)), (h0, .inr (11, [.int 0, .ref q_1124, .int 0, .int 0, .int 0, .int 0, .int 0, .int 0, .int 0, .int 0, .int 0, .int 0, .long 0, .int 0, .ref q_1125, .ref q_1126, .ref q_1127, .ref q_1128, .ref q_1129, .ref q_1130, .ref q_1131, .ref q_1132, .ref q_1133, .ref q_1134, .int 0, .int 0, .int 0, .int (-1), .int (-1), .int (-1), .ref q_1135, .int (-1), .int (-1), .ref q_1136, .int (-1), .int (-1), .ref q_1137, .int 0, .int 0, .ref q_1138, .ref q_1139, .int 0, .int 0, .ref q_1140, .int 0, .int 0, .int 0, .int 0])), (aI ca q_1126 89 u_1143), (aZ ca q_1134 2 u_1144)] H := hP
  have hD : va_D A [(aI ca q_1124 940 (fun _ => 0)), (aI ca q_1125 376 g_1544), (aI ca q_1127 752 (fun _ => 0)), (aI ca q_1128 360 (fun _ => 0)), (aI ca q_1129 45 (fun _ => 0)), (aJ ca q_1130 19 (fun _ => 0)), (aJ ca q_1131 19 (fun _ => 0)), (aJ ca q_1132 38 (fun _ => 0)), (aZ ca q_1133 2 (fun _ => 0)), (aI ca q_1135 10 (fun _ => 0)), (aZ ca q_1136 1024 (fun _ => 0)), (aI ca q_1137 64 (fun _ => 0)), (aI ca q_1138 80 (fun _ => 0)), (aI ca q_1139 4 (fun _ => 0)), (aI ca q_1140 240 (fun _ => 0)), (h0, .inr (11, [.int 0, .ref q_1124, .int 0, .int 0, .int 0, .int 0, .int 0, .int 0, .int 0, .int 0, .int 0, .int 0, .long 0, .int 0, .ref q_1125, .ref q_1126, .ref q_1127, .ref q_1128, .ref q_1129, .ref q_1130, .ref q_1131, .ref q_1132, .ref q_1133, .ref q_1134, .int 0, .int 0, .int 0, .int (-1), .int (-1), .int (-1), .ref q_1135, .int (-1), .int (-1), .ref q_1136, .int (-1), .int (-1), .ref q_1137, .int 0, .int 0, .ref q_1138, .ref q_1139, .int 0, .int 0, .ref q_1140, .int 0, .int 0, .int 0, .int 0])), (aI ca q_1126 89 u_1143), (aZ ca q_1134 2 u_1144)] := hD
  refine lv_iinc (v := 44) (lv' := [(1, .int 44), (0, .ref h0)]) hx hb dX12_init_202 hl (k := 0) rfl (by decide) (by decide) rfl (fun ls hl => ?_)
  refine lv_goto (tgt := 184) hx hb dX12_init_205 (by decide) ?_
  clear s_1536 s_1537 s_1538 s_1539 s_1540 s_1541 s_1542 ex_1543 eg_1544
  refine lv_iload_n hx hb dX12_init_184 rfl (lv_at hl 0 rfl) ?_
  refine lv_bipush (v := 89) hx hb dX12_init_185 (by decide) ?_
  refine lv_icmp_ge (tgt := 208) hx hb dX12_init_187 (by decide) (fun c => absurd c (by decide)) (fun _ => ?_)
  refine lv_aload_n hx hb dX12_init_190 rfl (lv_at hl 1 rfl) ?_
  refine va_get (D := D) (ci := 11) (v := .ref q_1125) (C := RX12) (T := TX12) (N := 48) hx hb hts k6 hown hK.1 hP 15 rfl rfl 14 (by decide) k7 (fun _ h9 => h9) rfl dX12_init_191 ?_
  refine lv_iload_n hx hb dX12_init_194 rfl (lv_at hl 0 rfl) ?_
  refine lv_aload_n hx hb dX12_init_195 rfl (lv_at hl 1 rfl) ?_
  refine va_get (D := D) (ci := 11) (v := .ref q_1126) (C := RX12) (T := TX12) (N := 48) hx hb hts k6 hown hK.1 hP 15 rfl rfl 15 (by decide) k8 (fun _ h9 => h9) rfl dX12_init_196 ?_
  refine lv_iload_n hx hb dX12_init_199 rfl (lv_at hl 0 rfl) ?_
  refine va_iald hx hb hK.1 hP 16 0 rfl rfl (rg_in (⟨by decide, by decide⟩ : rg 44 44 (44 : Int32)) (by decide) (by decide)) dX12_init_200 ?_
  refine lv_topi (fun x_1553 ex_1553 => ?_)
  have h_1554 : rg 0 3 x_1553 := by rw [ex_1553]; exact sg_at (sg_w (a' := 44) (b' := 45) (lo' := 0) (hi' := 3) h_1149 (by decide) (by decide) (by decide) (by decide)) (⟨by decide, by decide⟩ : rg 44 44 (44 : Int32)) (by decide) (by decide) (by decide)
  refine va_iast hx hb hK.1 hP hD hS 1 0 rfl rfl (rg_in (⟨by decide, by decide⟩ : rg 44 44 (44 : Int32)) (by decide) (by decide)) dX12_init_201 (fun H locs hP hD hS => ?_)
  obtain ⟨g_1555, eg_1555⟩ : ∃ y : Nat → Int32, y = upd g_1544 (44 : Int32).toNatClampNeg (x_1553 : Int32) := ⟨_, rfl⟩
  rw [← eg_1555] at hP hD
  have s_1557 : sg 45 376 0 0 g_1555 := sg_out (sg_w s_1546 (by decide) (by decide) (by decide) (by decide)) eg_1555 (⟨by decide, by decide⟩ : rg 44 44 (44 : Int32)) (by decide) (by decide)
  have s_1558 : sg 0 1 0 10 g_1555 := sg_out s_1547 eg_1555 (⟨by decide, by decide⟩ : rg 44 44 (44 : Int32)) (by decide) (by decide)
  have s_1559 : sg 1 2 0 4 g_1555 := sg_out s_1548 eg_1555 (⟨by decide, by decide⟩ : rg 44 44 (44 : Int32)) (by decide) (by decide)
  have s_1560 : sg 2 3 0 5 g_1555 := sg_out s_1549 eg_1555 (⟨by decide, by decide⟩ : rg 44 44 (44 : Int32)) (by decide) (by decide)
  have s_1561 : sg 3 4 3 3 g_1555 := sg_out s_1550 eg_1555 (⟨by decide, by decide⟩ : rg 44 44 (44 : Int32)) (by decide) (by decide)
  have s_1562 : sg 4 5 1 1 g_1555 := sg_out s_1551 eg_1555 (⟨by decide, by decide⟩ : rg 44 44 (44 : Int32)) (by decide) (by decide)
  have s_1563 : sg 35 36 0 1023 g_1555 := sg_out s_1552 eg_1555 (⟨by decide, by decide⟩ : rg 44 44 (44 : Int32)) (by decide) (by decide)
  have s_1564 : sg 44 45 0 3 g_1555 := sg_one eg_1555 h_1554
  have hP : va_P D vwCl [(aI ca q_1124 940 (fun _ => 0)), (aI ca q_1125 376 g_1555), (aI ca q_1127 752 (fun _ => 0)), (aI ca q_1128 360 (fun _ => 0)), (aI ca q_1129 45 (fun _ => 0)), (aJ ca q_1130 19 (fun _ => 0)), (aJ ca q_1131 19 (fun _ => 0)), (aJ ca q_1132 38 (fun _ => 0)), (aZ ca q_1133 2 (fun _ => 0)), (aI ca q_1135 10 (fun _ => 0)), (aZ ca q_1136 1024 (fun _ => 0)), (aI ca q_1137 64 (fun _ => 0)), (aI ca q_1138 80 (fun _ => 0)), (aI ca q_1139 4 (fun _ => 0)), (aI ca q_1140 240 (fun _ => 0)), (h0, .inr (11, [.int 0, .ref q_1124, .int 0, .int 0, .int 0, .int 0, .int 0, .int 0, .int 0, .int 0, .int 0, .int 0, .long 0, .int 0, .ref q_1125, .ref q_1126, .ref q_1127, .ref q_1128, .ref q_1129, .ref q_1130, .ref q_1131, .ref q_1132, .ref q_1133, .ref q_1134, .int 0, .int 0, .int 0, .int (-1), .int (-1), .int (-1), .ref q_1135, .int (-1), .int (-1), .ref q_1136, .int (-1), .int (-1), .ref q_1137, .int 0, .int 0, .ref q_1138, .ref q_1139, .int 0, .int 0, .ref q_1140, .int 0, .int 0, .int 0, .int 0])), (aI ca q_1126 89 u_1143), (aZ ca q_1134 2 u_1144)] H := hP
  have hD : va_D A [(aI ca q_1124 940 (fun _ => 0)), (aI ca q_1125 376 g_1555), (aI ca q_1127 752 (fun _ => 0)), (aI ca q_1128 360 (fun _ => 0)), (aI ca q_1129 45 (fun _ => 0)), (aJ ca q_1130 19 (fun _ => 0)), (aJ ca q_1131 19 (fun _ => 0)), (aJ ca q_1132 38 (fun _ => 0)), (aZ ca q_1133 2 (fun _ => 0)), (aI ca q_1135 10 (fun _ => 0)), (aZ ca q_1136 1024 (fun _ => 0)), (aI ca q_1137 64 (fun _ => 0)), (aI ca q_1138 80 (fun _ => 0)), (aI ca q_1139 4 (fun _ => 0)), (aI ca q_1140 240 (fun _ => 0)), (h0, .inr (11, [.int 0, .ref q_1124, .int 0, .int 0, .int 0, .int 0, .int 0, .int 0, .int 0, .int 0, .int 0, .int 0, .long 0, .int 0, .ref q_1125, .ref q_1126, .ref q_1127, .ref q_1128, .ref q_1129, .ref q_1130, .ref q_1131, .ref q_1132, .ref q_1133, .ref q_1134, .int 0, .int 0, .int 0, .int (-1), .int (-1), .int (-1), .ref q_1135, .int (-1), .int (-1), .ref q_1136, .int (-1), .int (-1), .ref q_1137, .int 0, .int 0, .ref q_1138, .ref q_1139, .int 0, .int 0, .ref q_1140, .int 0, .int 0, .int 0, .int 0])), (aI ca q_1126 89 u_1143), (aZ ca q_1134 2 u_1144)] := hD
  refine lv_iinc (v := 45) (lv' := [(1, .int 45), (0, .ref h0)]) hx hb dX12_init_202 hl (k := 0) rfl (by decide) (by decide) rfl (fun ls hl => ?_)
  refine lv_goto (tgt := 184) hx hb dX12_init_205 (by decide) ?_
  clear s_1546 s_1547 s_1548 s_1549 s_1550 s_1551 s_1552 ex_1553 h_1554 eg_1555
  refine lv_iload_n hx hb dX12_init_184 rfl (lv_at hl 0 rfl) ?_
  refine lv_bipush (v := 89) hx hb dX12_init_185 (by decide) ?_
  refine lv_icmp_ge (tgt := 208) hx hb dX12_init_187 (by decide) (fun c => absurd c (by decide)) (fun _ => ?_)
  refine lv_aload_n hx hb dX12_init_190 rfl (lv_at hl 1 rfl) ?_
  refine va_get (D := D) (ci := 11) (v := .ref q_1125) (C := RX12) (T := TX12) (N := 48) hx hb hts k6 hown hK.1 hP 15 rfl rfl 14 (by decide) k7 (fun _ h9 => h9) rfl dX12_init_191 ?_
  refine lv_iload_n hx hb dX12_init_194 rfl (lv_at hl 0 rfl) ?_
  refine lv_aload_n hx hb dX12_init_195 rfl (lv_at hl 1 rfl) ?_
  refine va_get (D := D) (ci := 11) (v := .ref q_1126) (C := RX12) (T := TX12) (N := 48) hx hb hts k6 hown hK.1 hP 15 rfl rfl 15 (by decide) k8 (fun _ h9 => h9) rfl dX12_init_196 ?_
  refine lv_iload_n hx hb dX12_init_199 rfl (lv_at hl 0 rfl) ?_
  refine va_iald hx hb hK.1 hP 16 0 rfl rfl (rg_in (⟨by decide, by decide⟩ : rg 45 45 (45 : Int32)) (by decide) (by decide)) dX12_init_200 ?_
  refine lv_topi (fun x_1565 ex_1565 => ?_)
  have h_1566 : rg 0 3 x_1565 := by rw [ex_1565]; exact sg_at (sg_w (a' := 45) (b' := 46) (lo' := 0) (hi' := 3) h_1149 (by decide) (by decide) (by decide) (by decide)) (⟨by decide, by decide⟩ : rg 45 45 (45 : Int32)) (by decide) (by decide) (by decide)
  refine va_iast hx hb hK.1 hP hD hS 1 0 rfl rfl (rg_in (⟨by decide, by decide⟩ : rg 45 45 (45 : Int32)) (by decide) (by decide)) dX12_init_201 (fun H locs hP hD hS => ?_)
  obtain ⟨g_1567, eg_1567⟩ : ∃ y : Nat → Int32, y = upd g_1555 (45 : Int32).toNatClampNeg (x_1565 : Int32) := ⟨_, rfl⟩
  rw [← eg_1567] at hP hD
  have s_1569 : sg 46 376 0 0 g_1567 := sg_out (sg_w s_1557 (by decide) (by decide) (by decide) (by decide)) eg_1567 (⟨by decide, by decide⟩ : rg 45 45 (45 : Int32)) (by decide) (by decide)
  have s_1570 : sg 0 1 0 10 g_1567 := sg_out s_1558 eg_1567 (⟨by decide, by decide⟩ : rg 45 45 (45 : Int32)) (by decide) (by decide)
  have s_1571 : sg 1 2 0 4 g_1567 := sg_out s_1559 eg_1567 (⟨by decide, by decide⟩ : rg 45 45 (45 : Int32)) (by decide) (by decide)
  have s_1572 : sg 2 3 0 5 g_1567 := sg_out s_1560 eg_1567 (⟨by decide, by decide⟩ : rg 45 45 (45 : Int32)) (by decide) (by decide)
  have s_1573 : sg 3 4 3 3 g_1567 := sg_out s_1561 eg_1567 (⟨by decide, by decide⟩ : rg 45 45 (45 : Int32)) (by decide) (by decide)
  have s_1574 : sg 4 5 1 1 g_1567 := sg_out s_1562 eg_1567 (⟨by decide, by decide⟩ : rg 45 45 (45 : Int32)) (by decide) (by decide)
  have s_1575 : sg 35 36 0 1023 g_1567 := sg_out s_1563 eg_1567 (⟨by decide, by decide⟩ : rg 45 45 (45 : Int32)) (by decide) (by decide)
  have s_1576 : sg 44 45 0 3 g_1567 := sg_out s_1564 eg_1567 (⟨by decide, by decide⟩ : rg 45 45 (45 : Int32)) (by decide) (by decide)
  have s_1577 : sg 45 46 0 3 g_1567 := sg_one eg_1567 h_1566
  have hP : va_P D vwCl [(aI ca q_1124 940 (fun _ => 0)), (aI ca q_1125 376 g_1567), (aI ca q_1127 752 (fun _ => 0)), (aI ca q_1128 360 (fun _ => 0)), (aI ca q_1129 45 (fun _ => 0)), (aJ ca q_1130 19 (fun _ => 0)), (aJ ca q_1131 19 (fun _ => 0)), (aJ ca q_1132 38 (fun _ => 0)), (aZ ca q_1133 2 (fun _ => 0)), (aI ca q_1135 10 (fun _ => 0)), (aZ ca q_1136 1024 (fun _ => 0)), (aI ca q_1137 64 (fun _ => 0)), (aI ca q_1138 80 (fun _ => 0)), (aI ca q_1139 4 (fun _ => 0)), (aI ca q_1140 240 (fun _ => 0)), (h0, .inr (11, [.int 0, .ref q_1124, .int 0, .int 0, .int 0, .int 0, .int 0, .int 0, .int 0, .int 0, .int 0, .int 0, .long 0, .int 0, .ref q_1125, .ref q_1126, .ref q_1127, .ref q_1128, .ref q_1129, .ref q_1130, .ref q_1131, .ref q_1132, .ref q_1133, .ref q_1134, .int 0, .int 0, .int 0, .int (-1), .int (-1), .int (-1), .ref q_1135, .int (-1), .int (-1), .ref q_1136, .int (-1), .int (-1), .ref q_1137, .int 0, .int 0, .ref q_1138, .ref q_1139, .int 0, .int 0, .ref q_1140, .int 0, .int 0, .int 0, .int 0])), (aI ca q_1126 89 u_1143), (aZ ca q_1134 2 u_1144)] H := hP
  have hD : va_D A [(aI ca q_1124 940 (fun _ => 0)), (aI ca q_1125 376 g_1567), (aI ca q_1127 752 (fun _ => 0)), (aI ca q_1128 360 (fun _ => 0)), (aI ca q_1129 45 (fun _ => 0)), (aJ ca q_1130 19 (fun _ => 0)), (aJ ca q_1131 19 (fun _ => 0)), (aJ ca q_1132 38 (fun _ => 0)), (aZ ca q_1133 2 (fun _ => 0)), (aI ca q_1135 10 (fun _ => 0)), (aZ ca q_1136 1024 (fun _ => 0)), (aI ca q_1137 64 (fun _ => 0)), (aI ca q_1138 80 (fun _ => 0)), (aI ca q_1139 4 (fun _ => 0)), (aI ca q_1140 240 (fun _ => 0)), (h0, .inr (11, [.int 0, .ref q_1124, .int 0, .int 0, .int 0, .int 0, .int 0, .int 0, .int 0, .int 0, .int 0, .int 0, .long 0, .int 0, .ref q_1125, .ref q_1126, .ref q_1127, .ref q_1128, .ref q_1129, .ref q_1130, .ref q_1131, .ref q_1132, .ref q_1133, .ref q_1134, .int 0, .int 0, .int 0, .int (-1), .int (-1), .int (-1), .ref q_1135, .int (-1), .int (-1), .ref q_1136, .int (-1), .int (-1), .ref q_1137, .int 0, .int 0, .ref q_1138, .ref q_1139, .int 0, .int 0, .ref q_1140, .int 0, .int 0, .int 0, .int 0])), (aI ca q_1126 89 u_1143), (aZ ca q_1134 2 u_1144)] := hD
  refine lv_iinc (v := 46) (lv' := [(1, .int 46), (0, .ref h0)]) hx hb dX12_init_202 hl (k := 0) rfl (by decide) (by decide) rfl (fun ls hl => ?_)
  refine lv_goto (tgt := 184) hx hb dX12_init_205 (by decide) ?_
  clear s_1557 s_1558 s_1559 s_1560 s_1561 s_1562 s_1563 s_1564 ex_1565 h_1566 eg_1567
  refine lv_iload_n hx hb dX12_init_184 rfl (lv_at hl 0 rfl) ?_
  refine lv_bipush (v := 89) hx hb dX12_init_185 (by decide) ?_
  refine lv_icmp_ge (tgt := 208) hx hb dX12_init_187 (by decide) (fun c => absurd c (by decide)) (fun _ => ?_)
  refine lv_aload_n hx hb dX12_init_190 rfl (lv_at hl 1 rfl) ?_
  refine va_get (D := D) (ci := 11) (v := .ref q_1125) (C := RX12) (T := TX12) (N := 48) hx hb hts k6 hown hK.1 hP 15 rfl rfl 14 (by decide) k7 (fun _ h9 => h9) rfl dX12_init_191 ?_
  refine lv_iload_n hx hb dX12_init_194 rfl (lv_at hl 0 rfl) ?_
  refine lv_aload_n hx hb dX12_init_195 rfl (lv_at hl 1 rfl) ?_
  refine va_get (D := D) (ci := 11) (v := .ref q_1126) (C := RX12) (T := TX12) (N := 48) hx hb hts k6 hown hK.1 hP 15 rfl rfl 15 (by decide) k8 (fun _ h9 => h9) rfl dX12_init_196 ?_
  refine lv_iload_n hx hb dX12_init_199 rfl (lv_at hl 0 rfl) ?_
  refine va_iald hx hb hK.1 hP 16 0 rfl rfl (rg_in (⟨by decide, by decide⟩ : rg 46 46 (46 : Int32)) (by decide) (by decide)) dX12_init_200 ?_
  refine lv_topi (fun x_1578 ex_1578 => ?_)
  have h_1579 : rg 0 3 x_1578 := by rw [ex_1578]; exact sg_at (sg_w (a' := 46) (b' := 47) (lo' := 0) (hi' := 3) h_1149 (by decide) (by decide) (by decide) (by decide)) (⟨by decide, by decide⟩ : rg 46 46 (46 : Int32)) (by decide) (by decide) (by decide)
  refine va_iast hx hb hK.1 hP hD hS 1 0 rfl rfl (rg_in (⟨by decide, by decide⟩ : rg 46 46 (46 : Int32)) (by decide) (by decide)) dX12_init_201 (fun H locs hP hD hS => ?_)
  obtain ⟨g_1580, eg_1580⟩ : ∃ y : Nat → Int32, y = upd g_1567 (46 : Int32).toNatClampNeg (x_1578 : Int32) := ⟨_, rfl⟩
  rw [← eg_1580] at hP hD
  have s_1582 : sg 47 376 0 0 g_1580 := sg_out (sg_w s_1569 (by decide) (by decide) (by decide) (by decide)) eg_1580 (⟨by decide, by decide⟩ : rg 46 46 (46 : Int32)) (by decide) (by decide)
  have s_1583 : sg 0 1 0 10 g_1580 := sg_out s_1570 eg_1580 (⟨by decide, by decide⟩ : rg 46 46 (46 : Int32)) (by decide) (by decide)
  have s_1584 : sg 1 2 0 4 g_1580 := sg_out s_1571 eg_1580 (⟨by decide, by decide⟩ : rg 46 46 (46 : Int32)) (by decide) (by decide)
  have s_1585 : sg 2 3 0 5 g_1580 := sg_out s_1572 eg_1580 (⟨by decide, by decide⟩ : rg 46 46 (46 : Int32)) (by decide) (by decide)
  have s_1586 : sg 3 4 3 3 g_1580 := sg_out s_1573 eg_1580 (⟨by decide, by decide⟩ : rg 46 46 (46 : Int32)) (by decide) (by decide)
  have s_1587 : sg 4 5 1 1 g_1580 := sg_out s_1574 eg_1580 (⟨by decide, by decide⟩ : rg 46 46 (46 : Int32)) (by decide) (by decide)
  have s_1588 : sg 35 36 0 1023 g_1580 := sg_out s_1575 eg_1580 (⟨by decide, by decide⟩ : rg 46 46 (46 : Int32)) (by decide) (by decide)
  have s_1589 : sg 44 45 0 3 g_1580 := sg_out s_1576 eg_1580 (⟨by decide, by decide⟩ : rg 46 46 (46 : Int32)) (by decide) (by decide)
  have s_1590 : sg 45 46 0 3 g_1580 := sg_out s_1577 eg_1580 (⟨by decide, by decide⟩ : rg 46 46 (46 : Int32)) (by decide) (by decide)
  have s_1591 : sg 46 47 0 3 g_1580 := sg_one eg_1580 h_1579
  have hP : va_P D vwCl [(aI ca q_1124 940 (fun _ => 0)), (aI ca q_1125 376 g_1580), (aI ca q_1127 752 (fun _ => 0)), (aI ca q_1128 360 (fun _ => 0)), (aI ca q_1129 45 (fun _ => 0)), (aJ ca q_1130 19 (fun _ => 0)), (aJ ca q_1131 19 (fun _ => 0)), (aJ ca q_1132 38 (fun _ => 0)), (aZ ca q_1133 2 (fun _ => 0)), (aI ca q_1135 10 (fun _ => 0)), (aZ ca q_1136 1024 (fun _ => 0)), (aI ca q_1137 64 (fun _ => 0)), (aI ca q_1138 80 (fun _ => 0)), (aI ca q_1139 4 (fun _ => 0)), (aI ca q_1140 240 (fun _ => 0)), (h0, .inr (11, [.int 0, .ref q_1124, .int 0, .int 0, .int 0, .int 0, .int 0, .int 0, .int 0, .int 0, .int 0, .int 0, .long 0, .int 0, .ref q_1125, .ref q_1126, .ref q_1127, .ref q_1128, .ref q_1129, .ref q_1130, .ref q_1131, .ref q_1132, .ref q_1133, .ref q_1134, .int 0, .int 0, .int 0, .int (-1), .int (-1), .int (-1), .ref q_1135, .int (-1), .int (-1), .ref q_1136, .int (-1), .int (-1), .ref q_1137, .int 0, .int 0, .ref q_1138, .ref q_1139, .int 0, .int 0, .ref q_1140, .int 0, .int 0, .int 0, .int 0])), (aI ca q_1126 89 u_1143), (aZ ca q_1134 2 u_1144)] H := hP
  have hD : va_D A [(aI ca q_1124 940 (fun _ => 0)), (aI ca q_1125 376 g_1580), (aI ca q_1127 752 (fun _ => 0)), (aI ca q_1128 360 (fun _ => 0)), (aI ca q_1129 45 (fun _ => 0)), (aJ ca q_1130 19 (fun _ => 0)), (aJ ca q_1131 19 (fun _ => 0)), (aJ ca q_1132 38 (fun _ => 0)), (aZ ca q_1133 2 (fun _ => 0)), (aI ca q_1135 10 (fun _ => 0)), (aZ ca q_1136 1024 (fun _ => 0)), (aI ca q_1137 64 (fun _ => 0)), (aI ca q_1138 80 (fun _ => 0)), (aI ca q_1139 4 (fun _ => 0)), (aI ca q_1140 240 (fun _ => 0)), (h0, .inr (11, [.int 0, .ref q_1124, .int 0, .int 0, .int 0, .int 0, .int 0, .int 0, .int 0, .int 0, .int 0, .int 0, .long 0, .int 0, .ref q_1125, .ref q_1126, .ref q_1127, .ref q_1128, .ref q_1129, .ref q_1130, .ref q_1131, .ref q_1132, .ref q_1133, .ref q_1134, .int 0, .int 0, .int 0, .int (-1), .int (-1), .int (-1), .ref q_1135, .int (-1), .int (-1), .ref q_1136, .int (-1), .int (-1), .ref q_1137, .int 0, .int 0, .ref q_1138, .ref q_1139, .int 0, .int 0, .ref q_1140, .int 0, .int 0, .int 0, .int 0])), (aI ca q_1126 89 u_1143), (aZ ca q_1134 2 u_1144)] := hD
  refine lv_iinc (v := 47) (lv' := [(1, .int 47), (0, .ref h0)]) hx hb dX12_init_202 hl (k := 0) rfl (by decide) (by decide) rfl (fun ls hl => ?_)
  refine lv_goto (tgt := 184) hx hb dX12_init_205 (by decide) ?_
  clear s_1569 s_1570 s_1571 s_1572 s_1573 s_1574 s_1575 s_1576 s_1577 ex_1578 h_1579 eg_1580
  refine lv_iload_n hx hb dX12_init_184 rfl (lv_at hl 0 rfl) ?_
  refine lv_bipush (v := 89) hx hb dX12_init_185 (by decide) ?_
  refine lv_icmp_ge (tgt := 208) hx hb dX12_init_187 (by decide) (fun c => absurd c (by decide)) (fun _ => ?_)
  refine lv_aload_n hx hb dX12_init_190 rfl (lv_at hl 1 rfl) ?_
  refine va_get (D := D) (ci := 11) (v := .ref q_1125) (C := RX12) (T := TX12) (N := 48) hx hb hts k6 hown hK.1 hP 15 rfl rfl 14 (by decide) k7 (fun _ h9 => h9) rfl dX12_init_191 ?_
  refine lv_iload_n hx hb dX12_init_194 rfl (lv_at hl 0 rfl) ?_
  refine lv_aload_n hx hb dX12_init_195 rfl (lv_at hl 1 rfl) ?_
  refine va_get (D := D) (ci := 11) (v := .ref q_1126) (C := RX12) (T := TX12) (N := 48) hx hb hts k6 hown hK.1 hP 15 rfl rfl 15 (by decide) k8 (fun _ h9 => h9) rfl dX12_init_196 ?_
  refine lv_iload_n hx hb dX12_init_199 rfl (lv_at hl 0 rfl) ?_
  refine va_iald hx hb hK.1 hP 16 0 rfl rfl (rg_in (⟨by decide, by decide⟩ : rg 47 47 (47 : Int32)) (by decide) (by decide)) dX12_init_200 ?_
  refine lv_topi (fun x_1592 ex_1592 => ?_)
  have h_1593 : rg 0 3 x_1592 := by rw [ex_1592]; exact sg_at (sg_w (a' := 47) (b' := 48) (lo' := 0) (hi' := 3) h_1149 (by decide) (by decide) (by decide) (by decide)) (⟨by decide, by decide⟩ : rg 47 47 (47 : Int32)) (by decide) (by decide) (by decide)
  refine va_iast hx hb hK.1 hP hD hS 1 0 rfl rfl (rg_in (⟨by decide, by decide⟩ : rg 47 47 (47 : Int32)) (by decide) (by decide)) dX12_init_201 (fun H locs hP hD hS => ?_)
  obtain ⟨g_1594, eg_1594⟩ : ∃ y : Nat → Int32, y = upd g_1580 (47 : Int32).toNatClampNeg (x_1592 : Int32) := ⟨_, rfl⟩
  rw [← eg_1594] at hP hD
  have s_1596 : sg 48 376 0 0 g_1594 := sg_out (sg_w s_1582 (by decide) (by decide) (by decide) (by decide)) eg_1594 (⟨by decide, by decide⟩ : rg 47 47 (47 : Int32)) (by decide) (by decide)
  have s_1597 : sg 0 1 0 10 g_1594 := sg_out s_1583 eg_1594 (⟨by decide, by decide⟩ : rg 47 47 (47 : Int32)) (by decide) (by decide)
  have s_1598 : sg 1 2 0 4 g_1594 := sg_out s_1584 eg_1594 (⟨by decide, by decide⟩ : rg 47 47 (47 : Int32)) (by decide) (by decide)
  have s_1599 : sg 2 3 0 5 g_1594 := sg_out s_1585 eg_1594 (⟨by decide, by decide⟩ : rg 47 47 (47 : Int32)) (by decide) (by decide)
  have s_1600 : sg 3 4 3 3 g_1594 := sg_out s_1586 eg_1594 (⟨by decide, by decide⟩ : rg 47 47 (47 : Int32)) (by decide) (by decide)
  have s_1601 : sg 4 5 1 1 g_1594 := sg_out s_1587 eg_1594 (⟨by decide, by decide⟩ : rg 47 47 (47 : Int32)) (by decide) (by decide)
  have s_1602 : sg 35 36 0 1023 g_1594 := sg_out s_1588 eg_1594 (⟨by decide, by decide⟩ : rg 47 47 (47 : Int32)) (by decide) (by decide)
  have s_1603 : sg 44 45 0 3 g_1594 := sg_out s_1589 eg_1594 (⟨by decide, by decide⟩ : rg 47 47 (47 : Int32)) (by decide) (by decide)
  have s_1604 : sg 45 46 0 3 g_1594 := sg_out s_1590 eg_1594 (⟨by decide, by decide⟩ : rg 47 47 (47 : Int32)) (by decide) (by decide)
  have s_1605 : sg 46 47 0 3 g_1594 := sg_out s_1591 eg_1594 (⟨by decide, by decide⟩ : rg 47 47 (47 : Int32)) (by decide) (by decide)
  have s_1606 : sg 47 48 0 3 g_1594 := sg_one eg_1594 h_1593
  have hP : va_P D vwCl [(aI ca q_1124 940 (fun _ => 0)), (aI ca q_1125 376 g_1594), (aI ca q_1127 752 (fun _ => 0)), (aI ca q_1128 360 (fun _ => 0)), (aI ca q_1129 45 (fun _ => 0)), (aJ ca q_1130 19 (fun _ => 0)), (aJ ca q_1131 19 (fun _ => 0)), (aJ ca q_1132 38 (fun _ => 0)), (aZ ca q_1133 2 (fun _ => 0)), (aI ca q_1135 10 (fun _ => 0)), (aZ ca q_1136 1024 (fun _ => 0)), (aI ca q_1137 64 (fun _ => 0)), (aI ca q_1138 80 (fun _ => 0)), (aI ca q_1139 4 (fun _ => 0)), (aI ca q_1140 240 (fun _ => 0)), (h0, .inr (11, [.int 0, .ref q_1124, .int 0, .int 0, .int 0, .int 0, .int 0, .int 0, .int 0, .int 0, .int 0, .int 0, .long 0, .int 0, .ref q_1125, .ref q_1126, .ref q_1127, .ref q_1128, .ref q_1129, .ref q_1130, .ref q_1131, .ref q_1132, .ref q_1133, .ref q_1134, .int 0, .int 0, .int 0, .int (-1), .int (-1), .int (-1), .ref q_1135, .int (-1), .int (-1), .ref q_1136, .int (-1), .int (-1), .ref q_1137, .int 0, .int 0, .ref q_1138, .ref q_1139, .int 0, .int 0, .ref q_1140, .int 0, .int 0, .int 0, .int 0])), (aI ca q_1126 89 u_1143), (aZ ca q_1134 2 u_1144)] H := hP
  have hD : va_D A [(aI ca q_1124 940 (fun _ => 0)), (aI ca q_1125 376 g_1594), (aI ca q_1127 752 (fun _ => 0)), (aI ca q_1128 360 (fun _ => 0)), (aI ca q_1129 45 (fun _ => 0)), (aJ ca q_1130 19 (fun _ => 0)), (aJ ca q_1131 19 (fun _ => 0)), (aJ ca q_1132 38 (fun _ => 0)), (aZ ca q_1133 2 (fun _ => 0)), (aI ca q_1135 10 (fun _ => 0)), (aZ ca q_1136 1024 (fun _ => 0)), (aI ca q_1137 64 (fun _ => 0)), (aI ca q_1138 80 (fun _ => 0)), (aI ca q_1139 4 (fun _ => 0)), (aI ca q_1140 240 (fun _ => 0)), (h0, .inr (11, [.int 0, .ref q_1124, .int 0, .int 0, .int 0, .int 0, .int 0, .int 0, .int 0, .int 0, .int 0, .int 0, .long 0, .int 0, .ref q_1125, .ref q_1126, .ref q_1127, .ref q_1128, .ref q_1129, .ref q_1130, .ref q_1131, .ref q_1132, .ref q_1133, .ref q_1134, .int 0, .int 0, .int 0, .int (-1), .int (-1), .int (-1), .ref q_1135, .int (-1), .int (-1), .ref q_1136, .int (-1), .int (-1), .ref q_1137, .int 0, .int 0, .ref q_1138, .ref q_1139, .int 0, .int 0, .ref q_1140, .int 0, .int 0, .int 0, .int 0])), (aI ca q_1126 89 u_1143), (aZ ca q_1134 2 u_1144)] := hD
  refine lv_iinc (v := 48) (lv' := [(1, .int 48), (0, .ref h0)]) hx hb dX12_init_202 hl (k := 0) rfl (by decide) (by decide) rfl (fun ls hl => ?_)
  refine lv_goto (tgt := 184) hx hb dX12_init_205 (by decide) ?_
  clear s_1582 s_1583 s_1584 s_1585 s_1586 s_1587 s_1588 s_1589 s_1590 s_1591 ex_1592 h_1593 eg_1594
  refine lv_iload_n hx hb dX12_init_184 rfl (lv_at hl 0 rfl) ?_
  refine lv_bipush (v := 89) hx hb dX12_init_185 (by decide) ?_
  refine lv_icmp_ge (tgt := 208) hx hb dX12_init_187 (by decide) (fun c => absurd c (by decide)) (fun _ => ?_)
  refine lv_aload_n hx hb dX12_init_190 rfl (lv_at hl 1 rfl) ?_
  refine va_get (D := D) (ci := 11) (v := .ref q_1125) (C := RX12) (T := TX12) (N := 48) hx hb hts k6 hown hK.1 hP 15 rfl rfl 14 (by decide) k7 (fun _ h9 => h9) rfl dX12_init_191 ?_
  refine lv_iload_n hx hb dX12_init_194 rfl (lv_at hl 0 rfl) ?_
  refine lv_aload_n hx hb dX12_init_195 rfl (lv_at hl 1 rfl) ?_
  refine va_get (D := D) (ci := 11) (v := .ref q_1126) (C := RX12) (T := TX12) (N := 48) hx hb hts k6 hown hK.1 hP 15 rfl rfl 15 (by decide) k8 (fun _ h9 => h9) rfl dX12_init_196 ?_
  refine lv_iload_n hx hb dX12_init_199 rfl (lv_at hl 0 rfl) ?_
  refine va_iald hx hb hK.1 hP 16 0 rfl rfl (rg_in (⟨by decide, by decide⟩ : rg 48 48 (48 : Int32)) (by decide) (by decide)) dX12_init_200 ?_
  refine lv_topi (fun x_1607 ex_1607 => ?_)
  have h_1608 : rg 0 3 x_1607 := by rw [ex_1607]; exact sg_at (sg_w (a' := 48) (b' := 49) (lo' := 0) (hi' := 3) h_1149 (by decide) (by decide) (by decide) (by decide)) (⟨by decide, by decide⟩ : rg 48 48 (48 : Int32)) (by decide) (by decide) (by decide)
  refine va_iast hx hb hK.1 hP hD hS 1 0 rfl rfl (rg_in (⟨by decide, by decide⟩ : rg 48 48 (48 : Int32)) (by decide) (by decide)) dX12_init_201 (fun H locs hP hD hS => ?_)
  obtain ⟨g_1609, eg_1609⟩ : ∃ y : Nat → Int32, y = upd g_1594 (48 : Int32).toNatClampNeg (x_1607 : Int32) := ⟨_, rfl⟩
  rw [← eg_1609] at hP hD
  have s_1611 : sg 49 376 0 0 g_1609 := sg_out (sg_w s_1596 (by decide) (by decide) (by decide) (by decide)) eg_1609 (⟨by decide, by decide⟩ : rg 48 48 (48 : Int32)) (by decide) (by decide)
  have s_1612 : sg 0 1 0 10 g_1609 := sg_out s_1597 eg_1609 (⟨by decide, by decide⟩ : rg 48 48 (48 : Int32)) (by decide) (by decide)
  have s_1613 : sg 1 2 0 4 g_1609 := sg_out s_1598 eg_1609 (⟨by decide, by decide⟩ : rg 48 48 (48 : Int32)) (by decide) (by decide)
  have s_1614 : sg 2 3 0 5 g_1609 := sg_out s_1599 eg_1609 (⟨by decide, by decide⟩ : rg 48 48 (48 : Int32)) (by decide) (by decide)
  have s_1615 : sg 3 4 3 3 g_1609 := sg_out s_1600 eg_1609 (⟨by decide, by decide⟩ : rg 48 48 (48 : Int32)) (by decide) (by decide)
  have s_1616 : sg 4 5 1 1 g_1609 := sg_out s_1601 eg_1609 (⟨by decide, by decide⟩ : rg 48 48 (48 : Int32)) (by decide) (by decide)
  have s_1617 : sg 35 36 0 1023 g_1609 := sg_out s_1602 eg_1609 (⟨by decide, by decide⟩ : rg 48 48 (48 : Int32)) (by decide) (by decide)
  have s_1618 : sg 44 45 0 3 g_1609 := sg_out s_1603 eg_1609 (⟨by decide, by decide⟩ : rg 48 48 (48 : Int32)) (by decide) (by decide)
  have s_1619 : sg 45 46 0 3 g_1609 := sg_out s_1604 eg_1609 (⟨by decide, by decide⟩ : rg 48 48 (48 : Int32)) (by decide) (by decide)
  have s_1620 : sg 46 47 0 3 g_1609 := sg_out s_1605 eg_1609 (⟨by decide, by decide⟩ : rg 48 48 (48 : Int32)) (by decide) (by decide)
  have s_1621 : sg 47 48 0 3 g_1609 := sg_out s_1606 eg_1609 (⟨by decide, by decide⟩ : rg 48 48 (48 : Int32)) (by decide) (by decide)
  have s_1622 : sg 48 49 0 3 g_1609 := sg_one eg_1609 h_1608
  have hP : va_P D vwCl [(aI ca q_1124 940 (fun _ => 0)), (aI ca q_1125 376 g_1609), (aI ca q_1127 752 (fun _ => 0)), (aI ca q_1128 360 (fun _ => 0)), (aI ca q_1129 45 (fun _ => 0)), (aJ ca q_1130 19 (fun _ => 0)), (aJ ca q_1131 19 (fun _ => 0)), (aJ ca q_1132 38 (fun _ => 0)), (aZ ca q_1133 2 (fun _ => 0)), (aI ca q_1135 10 (fun _ => 0)), (aZ ca q_1136 1024 (fun _ => 0)), (aI ca q_1137 64 (fun _ => 0)), (aI ca q_1138 80 (fun _ => 0)), (aI ca q_1139 4 (fun _ => 0)), (aI ca q_1140 240 (fun _ => 0)), (h0, .inr (11, [.int 0, .ref q_1124, .int 0, .int 0, .int 0, .int 0, .int 0, .int 0, .int 0, .int 0, .int 0, .int 0, .long 0, .int 0, .ref q_1125, .ref q_1126, .ref q_1127, .ref q_1128, .ref q_1129, .ref q_1130, .ref q_1131, .ref q_1132, .ref q_1133, .ref q_1134, .int 0, .int 0, .int 0, .int (-1), .int (-1), .int (-1), .ref q_1135, .int (-1), .int (-1), .ref q_1136, .int (-1), .int (-1), .ref q_1137, .int 0, .int 0, .ref q_1138, .ref q_1139, .int 0, .int 0, .ref q_1140, .int 0, .int 0, .int 0, .int 0])), (aI ca q_1126 89 u_1143), (aZ ca q_1134 2 u_1144)] H := hP
  have hD : va_D A [(aI ca q_1124 940 (fun _ => 0)), (aI ca q_1125 376 g_1609), (aI ca q_1127 752 (fun _ => 0)), (aI ca q_1128 360 (fun _ => 0)), (aI ca q_1129 45 (fun _ => 0)), (aJ ca q_1130 19 (fun _ => 0)), (aJ ca q_1131 19 (fun _ => 0)), (aJ ca q_1132 38 (fun _ => 0)), (aZ ca q_1133 2 (fun _ => 0)), (aI ca q_1135 10 (fun _ => 0)), (aZ ca q_1136 1024 (fun _ => 0)), (aI ca q_1137 64 (fun _ => 0)), (aI ca q_1138 80 (fun _ => 0)), (aI ca q_1139 4 (fun _ => 0)), (aI ca q_1140 240 (fun _ => 0)), (h0, .inr (11, [.int 0, .ref q_1124, .int 0, .int 0, .int 0, .int 0, .int 0, .int 0, .int 0, .int 0, .int 0, .int 0, .long 0, .int 0, .ref q_1125, .ref q_1126, .ref q_1127, .ref q_1128, .ref q_1129, .ref q_1130, .ref q_1131, .ref q_1132, .ref q_1133, .ref q_1134, .int 0, .int 0, .int 0, .int (-1), .int (-1), .int (-1), .ref q_1135, .int (-1), .int (-1), .ref q_1136, .int (-1), .int (-1), .ref q_1137, .int 0, .int 0, .ref q_1138, .ref q_1139, .int 0, .int 0, .ref q_1140, .int 0, .int 0, .int 0, .int 0])), (aI ca q_1126 89 u_1143), (aZ ca q_1134 2 u_1144)] := hD
  refine lv_iinc (v := 49) (lv' := [(1, .int 49), (0, .ref h0)]) hx hb dX12_init_202 hl (k := 0) rfl (by decide) (by decide) rfl (fun ls hl => ?_)
  refine lv_goto (tgt := 184) hx hb dX12_init_205 (by decide) ?_
  clear s_1596 s_1597 s_1598 s_1599 s_1600 s_1601 s_1602 s_1603 s_1604 s_1605 s_1606 ex_1607 h_1608 eg_1609
  refine lv_iload_n hx hb dX12_init_184 rfl (lv_at hl 0 rfl) ?_
  refine lv_bipush (v := 89) hx hb dX12_init_185 (by decide) ?_
  refine lv_icmp_ge (tgt := 208) hx hb dX12_init_187 (by decide) (fun c => absurd c (by decide)) (fun _ => ?_)
  refine lv_aload_n hx hb dX12_init_190 rfl (lv_at hl 1 rfl) ?_
  refine va_get (D := D) (ci := 11) (v := .ref q_1125) (C := RX12) (T := TX12) (N := 48) hx hb hts k6 hown hK.1 hP 15 rfl rfl 14 (by decide) k7 (fun _ h9 => h9) rfl dX12_init_191 ?_
  refine lv_iload_n hx hb dX12_init_194 rfl (lv_at hl 0 rfl) ?_
  refine lv_aload_n hx hb dX12_init_195 rfl (lv_at hl 1 rfl) ?_
  refine va_get (D := D) (ci := 11) (v := .ref q_1126) (C := RX12) (T := TX12) (N := 48) hx hb hts k6 hown hK.1 hP 15 rfl rfl 15 (by decide) k8 (fun _ h9 => h9) rfl dX12_init_196 ?_
  refine lv_iload_n hx hb dX12_init_199 rfl (lv_at hl 0 rfl) ?_
  refine va_iald hx hb hK.1 hP 16 0 rfl rfl (rg_in (⟨by decide, by decide⟩ : rg 49 49 (49 : Int32)) (by decide) (by decide)) dX12_init_200 ?_
  refine lv_topi (fun x_1623 ex_1623 => ?_)
  refine va_iast hx hb hK.1 hP hD hS 1 0 rfl rfl (rg_in (⟨by decide, by decide⟩ : rg 49 49 (49 : Int32)) (by decide) (by decide)) dX12_init_201 (fun H locs hP hD hS => ?_)
  obtain ⟨g_1624, eg_1624⟩ : ∃ y : Nat → Int32, y = upd g_1609 (49 : Int32).toNatClampNeg (x_1623 : Int32) := ⟨_, rfl⟩
  rw [← eg_1624] at hP hD
  have s_1626 : sg 50 376 0 0 g_1624 := sg_out (sg_w s_1611 (by decide) (by decide) (by decide) (by decide)) eg_1624 (⟨by decide, by decide⟩ : rg 49 49 (49 : Int32)) (by decide) (by decide)
  have s_1627 : sg 0 1 0 10 g_1624 := sg_out s_1612 eg_1624 (⟨by decide, by decide⟩ : rg 49 49 (49 : Int32)) (by decide) (by decide)
  have s_1628 : sg 1 2 0 4 g_1624 := sg_out s_1613 eg_1624 (⟨by decide, by decide⟩ : rg 49 49 (49 : Int32)) (by decide) (by decide)
  have s_1629 : sg 2 3 0 5 g_1624 := sg_out s_1614 eg_1624 (⟨by decide, by decide⟩ : rg 49 49 (49 : Int32)) (by decide) (by decide)
  have s_1630 : sg 3 4 3 3 g_1624 := sg_out s_1615 eg_1624 (⟨by decide, by decide⟩ : rg 49 49 (49 : Int32)) (by decide) (by decide)
  have s_1631 : sg 4 5 1 1 g_1624 := sg_out s_1616 eg_1624 (⟨by decide, by decide⟩ : rg 49 49 (49 : Int32)) (by decide) (by decide)
  have s_1632 : sg 35 36 0 1023 g_1624 := sg_out s_1617 eg_1624 (⟨by decide, by decide⟩ : rg 49 49 (49 : Int32)) (by decide) (by decide)
  have s_1633 : sg 44 45 0 3 g_1624 := sg_out s_1618 eg_1624 (⟨by decide, by decide⟩ : rg 49 49 (49 : Int32)) (by decide) (by decide)
  have s_1634 : sg 45 46 0 3 g_1624 := sg_out s_1619 eg_1624 (⟨by decide, by decide⟩ : rg 49 49 (49 : Int32)) (by decide) (by decide)
  have s_1635 : sg 46 47 0 3 g_1624 := sg_out s_1620 eg_1624 (⟨by decide, by decide⟩ : rg 49 49 (49 : Int32)) (by decide) (by decide)
  have s_1636 : sg 47 48 0 3 g_1624 := sg_out s_1621 eg_1624 (⟨by decide, by decide⟩ : rg 49 49 (49 : Int32)) (by decide) (by decide)
  have s_1637 : sg 48 49 0 3 g_1624 := sg_out s_1622 eg_1624 (⟨by decide, by decide⟩ : rg 49 49 (49 : Int32)) (by decide) (by decide)
  have hP : va_P D vwCl [(aI ca q_1124 940 (fun _ => 0)), (aI ca q_1125 376 g_1624), (aI ca q_1127 752 (fun _ => 0)), (aI ca q_1128 360 (fun _ => 0)), (aI ca q_1129 45 (fun _ => 0)), (aJ ca q_1130 19 (fun _ => 0)), (aJ ca q_1131 19 (fun _ => 0)), (aJ ca q_1132 38 (fun _ => 0)), (aZ ca q_1133 2 (fun _ => 0)), (aI ca q_1135 10 (fun _ => 0)), (aZ ca q_1136 1024 (fun _ => 0)), (aI ca q_1137 64 (fun _ => 0)), (aI ca q_1138 80 (fun _ => 0)), (aI ca q_1139 4 (fun _ => 0)), (aI ca q_1140 240 (fun _ => 0)), (h0, .inr (11, [.int 0, .ref q_1124, .int 0, .int 0, .int 0, .int 0, .int 0, .int 0, .int 0, .int 0, .int 0, .int 0, .long 0, .int 0, .ref q_1125, .ref q_1126, .ref q_1127, .ref q_1128, .ref q_1129, .ref q_1130, .ref q_1131, .ref q_1132, .ref q_1133, .ref q_1134, .int 0, .int 0, .int 0, .int (-1), .int (-1), .int (-1), .ref q_1135, .int (-1), .int (-1), .ref q_1136, .int (-1), .int (-1), .ref q_1137, .int 0, .int 0, .ref q_1138, .ref q_1139, .int 0, .int 0, .ref q_1140, .int 0, .int 0, .int 0, .int 0])), (aI ca q_1126 89 u_1143), (aZ ca q_1134 2 u_1144)] H := hP
  have hD : va_D A [(aI ca q_1124 940 (fun _ => 0)), (aI ca q_1125 376 g_1624), (aI ca q_1127 752 (fun _ => 0)), (aI ca q_1128 360 (fun _ => 0)), (aI ca q_1129 45 (fun _ => 0)), (aJ ca q_1130 19 (fun _ => 0)), (aJ ca q_1131 19 (fun _ => 0)), (aJ ca q_1132 38 (fun _ => 0)), (aZ ca q_1133 2 (fun _ => 0)), (aI ca q_1135 10 (fun _ => 0)), (aZ ca q_1136 1024 (fun _ => 0)), (aI ca q_1137 64 (fun _ => 0)), (aI ca q_1138 80 (fun _ => 0)), (aI ca q_1139 4 (fun _ => 0)), (aI ca q_1140 240 (fun _ => 0)), (h0, .inr (11, [.int 0, .ref q_1124, .int 0, .int 0, .int 0, .int 0, .int 0, .int 0, .int 0, .int 0, .int 0, .int 0, .long 0, .int 0, .ref q_1125, .ref q_1126, .ref q_1127, .ref q_1128, .ref q_1129, .ref q_1130, .ref q_1131, .ref q_1132, .ref q_1133, .ref q_1134, .int 0, .int 0, .int 0, .int (-1), .int (-1), .int (-1), .ref q_1135, .int (-1), .int (-1), .ref q_1136, .int (-1), .int (-1), .ref q_1137, .int 0, .int 0, .ref q_1138, .ref q_1139, .int 0, .int 0, .ref q_1140, .int 0, .int 0, .int 0, .int 0])), (aI ca q_1126 89 u_1143), (aZ ca q_1134 2 u_1144)] := hD
  refine lv_iinc (v := 50) (lv' := [(1, .int 50), (0, .ref h0)]) hx hb dX12_init_202 hl (k := 0) rfl (by decide) (by decide) rfl (fun ls hl => ?_)
  refine lv_goto (tgt := 184) hx hb dX12_init_205 (by decide) ?_
  clear s_1611 s_1612 s_1613 s_1614 s_1615 s_1616 s_1617 s_1618 s_1619 s_1620 s_1621 s_1622 ex_1623 eg_1624
  refine lv_iload_n hx hb dX12_init_184 rfl (lv_at hl 0 rfl) ?_
  refine lv_bipush (v := 89) hx hb dX12_init_185 (by decide) ?_
  refine lv_icmp_ge (tgt := 208) hx hb dX12_init_187 (by decide) (fun c => absurd c (by decide)) (fun _ => ?_)
  refine lv_aload_n hx hb dX12_init_190 rfl (lv_at hl 1 rfl) ?_
  refine va_get (D := D) (ci := 11) (v := .ref q_1125) (C := RX12) (T := TX12) (N := 48) hx hb hts k6 hown hK.1 hP 15 rfl rfl 14 (by decide) k7 (fun _ h9 => h9) rfl dX12_init_191 ?_
  refine lv_iload_n hx hb dX12_init_194 rfl (lv_at hl 0 rfl) ?_
  refine lv_aload_n hx hb dX12_init_195 rfl (lv_at hl 1 rfl) ?_
  refine va_get (D := D) (ci := 11) (v := .ref q_1126) (C := RX12) (T := TX12) (N := 48) hx hb hts k6 hown hK.1 hP 15 rfl rfl 15 (by decide) k8 (fun _ h9 => h9) rfl dX12_init_196 ?_
  refine lv_iload_n hx hb dX12_init_199 rfl (lv_at hl 0 rfl) ?_
  refine va_iald hx hb hK.1 hP 16 0 rfl rfl (rg_in (⟨by decide, by decide⟩ : rg 50 50 (50 : Int32)) (by decide) (by decide)) dX12_init_200 ?_
  refine lv_topi (fun x_1638 ex_1638 => ?_)
  refine va_iast hx hb hK.1 hP hD hS 1 0 rfl rfl (rg_in (⟨by decide, by decide⟩ : rg 50 50 (50 : Int32)) (by decide) (by decide)) dX12_init_201 (fun H locs hP hD hS => ?_)
  obtain ⟨g_1639, eg_1639⟩ : ∃ y : Nat → Int32, y = upd g_1624 (50 : Int32).toNatClampNeg (x_1638 : Int32) := ⟨_, rfl⟩
  rw [← eg_1639] at hP hD
  have s_1641 : sg 51 376 0 0 g_1639 := sg_out (sg_w s_1626 (by decide) (by decide) (by decide) (by decide)) eg_1639 (⟨by decide, by decide⟩ : rg 50 50 (50 : Int32)) (by decide) (by decide)
  have s_1642 : sg 0 1 0 10 g_1639 := sg_out s_1627 eg_1639 (⟨by decide, by decide⟩ : rg 50 50 (50 : Int32)) (by decide) (by decide)
  have s_1643 : sg 1 2 0 4 g_1639 := sg_out s_1628 eg_1639 (⟨by decide, by decide⟩ : rg 50 50 (50 : Int32)) (by decide) (by decide)
  have s_1644 : sg 2 3 0 5 g_1639 := sg_out s_1629 eg_1639 (⟨by decide, by decide⟩ : rg 50 50 (50 : Int32)) (by decide) (by decide)
  have s_1645 : sg 3 4 3 3 g_1639 := sg_out s_1630 eg_1639 (⟨by decide, by decide⟩ : rg 50 50 (50 : Int32)) (by decide) (by decide)
  have s_1646 : sg 4 5 1 1 g_1639 := sg_out s_1631 eg_1639 (⟨by decide, by decide⟩ : rg 50 50 (50 : Int32)) (by decide) (by decide)
  have s_1647 : sg 35 36 0 1023 g_1639 := sg_out s_1632 eg_1639 (⟨by decide, by decide⟩ : rg 50 50 (50 : Int32)) (by decide) (by decide)
  have s_1648 : sg 44 45 0 3 g_1639 := sg_out s_1633 eg_1639 (⟨by decide, by decide⟩ : rg 50 50 (50 : Int32)) (by decide) (by decide)
  have s_1649 : sg 45 46 0 3 g_1639 := sg_out s_1634 eg_1639 (⟨by decide, by decide⟩ : rg 50 50 (50 : Int32)) (by decide) (by decide)
  have s_1650 : sg 46 47 0 3 g_1639 := sg_out s_1635 eg_1639 (⟨by decide, by decide⟩ : rg 50 50 (50 : Int32)) (by decide) (by decide)
  have s_1651 : sg 47 48 0 3 g_1639 := sg_out s_1636 eg_1639 (⟨by decide, by decide⟩ : rg 50 50 (50 : Int32)) (by decide) (by decide)
  have s_1652 : sg 48 49 0 3 g_1639 := sg_out s_1637 eg_1639 (⟨by decide, by decide⟩ : rg 50 50 (50 : Int32)) (by decide) (by decide)
  have hP : va_P D vwCl [(aI ca q_1124 940 (fun _ => 0)), (aI ca q_1125 376 g_1639), (aI ca q_1127 752 (fun _ => 0)), (aI ca q_1128 360 (fun _ => 0)), (aI ca q_1129 45 (fun _ => 0)), (aJ ca q_1130 19 (fun _ => 0)), (aJ ca q_1131 19 (fun _ => 0)), (aJ ca q_1132 38 (fun _ => 0)), (aZ ca q_1133 2 (fun _ => 0)), (aI ca q_1135 10 (fun _ => 0)), (aZ ca q_1136 1024 (fun _ => 0)), (aI ca q_1137 64 (fun _ => 0)), (aI ca q_1138 80 (fun _ => 0)), (aI ca q_1139 4 (fun _ => 0)), (aI ca q_1140 240 (fun _ => 0)), (h0, .inr (11, [.int 0, .ref q_1124, .int 0, .int 0, .int 0, .int 0, .int 0, .int 0, .int 0, .int 0, .int 0, .int 0, .long 0, .int 0, .ref q_1125, .ref q_1126, .ref q_1127, .ref q_1128, .ref q_1129, .ref q_1130, .ref q_1131, .ref q_1132, .ref q_1133, .ref q_1134, .int 0, .int 0, .int 0, .int (-1), .int (-1), .int (-1), .ref q_1135, .int (-1), .int (-1), .ref q_1136, .int (-1), .int (-1), .ref q_1137, .int 0, .int 0, .ref q_1138, .ref q_1139, .int 0, .int 0, .ref q_1140, .int 0, .int 0, .int 0, .int 0])), (aI ca q_1126 89 u_1143), (aZ ca q_1134 2 u_1144)] H := hP
  have hD : va_D A [(aI ca q_1124 940 (fun _ => 0)), (aI ca q_1125 376 g_1639), (aI ca q_1127 752 (fun _ => 0)), (aI ca q_1128 360 (fun _ => 0)), (aI ca q_1129 45 (fun _ => 0)), (aJ ca q_1130 19 (fun _ => 0)), (aJ ca q_1131 19 (fun _ => 0)), (aJ ca q_1132 38 (fun _ => 0)), (aZ ca q_1133 2 (fun _ => 0)), (aI ca q_1135 10 (fun _ => 0)), (aZ ca q_1136 1024 (fun _ => 0)), (aI ca q_1137 64 (fun _ => 0)), (aI ca q_1138 80 (fun _ => 0)), (aI ca q_1139 4 (fun _ => 0)), (aI ca q_1140 240 (fun _ => 0)), (h0, .inr (11, [.int 0, .ref q_1124, .int 0, .int 0, .int 0, .int 0, .int 0, .int 0, .int 0, .int 0, .int 0, .int 0, .long 0, .int 0, .ref q_1125, .ref q_1126, .ref q_1127, .ref q_1128, .ref q_1129, .ref q_1130, .ref q_1131, .ref q_1132, .ref q_1133, .ref q_1134, .int 0, .int 0, .int 0, .int (-1), .int (-1), .int (-1), .ref q_1135, .int (-1), .int (-1), .ref q_1136, .int (-1), .int (-1), .ref q_1137, .int 0, .int 0, .ref q_1138, .ref q_1139, .int 0, .int 0, .ref q_1140, .int 0, .int 0, .int 0, .int 0])), (aI ca q_1126 89 u_1143), (aZ ca q_1134 2 u_1144)] := hD
  refine lv_iinc (v := 51) (lv' := [(1, .int 51), (0, .ref h0)]) hx hb dX12_init_202 hl (k := 0) rfl (by decide) (by decide) rfl (fun ls hl => ?_)
  refine lv_goto (tgt := 184) hx hb dX12_init_205 (by decide) ?_
  clear s_1626 s_1627 s_1628 s_1629 s_1630 s_1631 s_1632 s_1633 s_1634 s_1635 s_1636 s_1637 ex_1638 eg_1639
  refine lv_iload_n hx hb dX12_init_184 rfl (lv_at hl 0 rfl) ?_
  refine lv_bipush (v := 89) hx hb dX12_init_185 (by decide) ?_
  refine lv_icmp_ge (tgt := 208) hx hb dX12_init_187 (by decide) (fun c => absurd c (by decide)) (fun _ => ?_)
  refine lv_aload_n hx hb dX12_init_190 rfl (lv_at hl 1 rfl) ?_
  refine va_get (D := D) (ci := 11) (v := .ref q_1125) (C := RX12) (T := TX12) (N := 48) hx hb hts k6 hown hK.1 hP 15 rfl rfl 14 (by decide) k7 (fun _ h9 => h9) rfl dX12_init_191 ?_
  refine lv_iload_n hx hb dX12_init_194 rfl (lv_at hl 0 rfl) ?_
  refine lv_aload_n hx hb dX12_init_195 rfl (lv_at hl 1 rfl) ?_
  refine va_get (D := D) (ci := 11) (v := .ref q_1126) (C := RX12) (T := TX12) (N := 48) hx hb hts k6 hown hK.1 hP 15 rfl rfl 15 (by decide) k8 (fun _ h9 => h9) rfl dX12_init_196 ?_
  refine lv_iload_n hx hb dX12_init_199 rfl (lv_at hl 0 rfl) ?_
  refine va_iald hx hb hK.1 hP 16 0 rfl rfl (rg_in (⟨by decide, by decide⟩ : rg 51 51 (51 : Int32)) (by decide) (by decide)) dX12_init_200 ?_
  refine lv_topi (fun x_1653 ex_1653 => ?_)
  refine va_iast hx hb hK.1 hP hD hS 1 0 rfl rfl (rg_in (⟨by decide, by decide⟩ : rg 51 51 (51 : Int32)) (by decide) (by decide)) dX12_init_201 (fun H locs hP hD hS => ?_)
  obtain ⟨g_1654, eg_1654⟩ : ∃ y : Nat → Int32, y = upd g_1639 (51 : Int32).toNatClampNeg (x_1653 : Int32) := ⟨_, rfl⟩
  rw [← eg_1654] at hP hD
  have s_1656 : sg 52 376 0 0 g_1654 := sg_out (sg_w s_1641 (by decide) (by decide) (by decide) (by decide)) eg_1654 (⟨by decide, by decide⟩ : rg 51 51 (51 : Int32)) (by decide) (by decide)
  have s_1657 : sg 0 1 0 10 g_1654 := sg_out s_1642 eg_1654 (⟨by decide, by decide⟩ : rg 51 51 (51 : Int32)) (by decide) (by decide)
  have s_1658 : sg 1 2 0 4 g_1654 := sg_out s_1643 eg_1654 (⟨by decide, by decide⟩ : rg 51 51 (51 : Int32)) (by decide) (by decide)
  have s_1659 : sg 2 3 0 5 g_1654 := sg_out s_1644 eg_1654 (⟨by decide, by decide⟩ : rg 51 51 (51 : Int32)) (by decide) (by decide)
  have s_1660 : sg 3 4 3 3 g_1654 := sg_out s_1645 eg_1654 (⟨by decide, by decide⟩ : rg 51 51 (51 : Int32)) (by decide) (by decide)
  have s_1661 : sg 4 5 1 1 g_1654 := sg_out s_1646 eg_1654 (⟨by decide, by decide⟩ : rg 51 51 (51 : Int32)) (by decide) (by decide)
  have s_1662 : sg 35 36 0 1023 g_1654 := sg_out s_1647 eg_1654 (⟨by decide, by decide⟩ : rg 51 51 (51 : Int32)) (by decide) (by decide)
  have s_1663 : sg 44 45 0 3 g_1654 := sg_out s_1648 eg_1654 (⟨by decide, by decide⟩ : rg 51 51 (51 : Int32)) (by decide) (by decide)
  have s_1664 : sg 45 46 0 3 g_1654 := sg_out s_1649 eg_1654 (⟨by decide, by decide⟩ : rg 51 51 (51 : Int32)) (by decide) (by decide)
  have s_1665 : sg 46 47 0 3 g_1654 := sg_out s_1650 eg_1654 (⟨by decide, by decide⟩ : rg 51 51 (51 : Int32)) (by decide) (by decide)
  have s_1666 : sg 47 48 0 3 g_1654 := sg_out s_1651 eg_1654 (⟨by decide, by decide⟩ : rg 51 51 (51 : Int32)) (by decide) (by decide)
  have s_1667 : sg 48 49 0 3 g_1654 := sg_out s_1652 eg_1654 (⟨by decide, by decide⟩ : rg 51 51 (51 : Int32)) (by decide) (by decide)
  have hP : va_P D vwCl [(aI ca q_1124 940 (fun _ => 0)), (aI ca q_1125 376 g_1654), (aI ca q_1127 752 (fun _ => 0)), (aI ca q_1128 360 (fun _ => 0)), (aI ca q_1129 45 (fun _ => 0)), (aJ ca q_1130 19 (fun _ => 0)), (aJ ca q_1131 19 (fun _ => 0)), (aJ ca q_1132 38 (fun _ => 0)), (aZ ca q_1133 2 (fun _ => 0)), (aI ca q_1135 10 (fun _ => 0)), (aZ ca q_1136 1024 (fun _ => 0)), (aI ca q_1137 64 (fun _ => 0)), (aI ca q_1138 80 (fun _ => 0)), (aI ca q_1139 4 (fun _ => 0)), (aI ca q_1140 240 (fun _ => 0)), (h0, .inr (11, [.int 0, .ref q_1124, .int 0, .int 0, .int 0, .int 0, .int 0, .int 0, .int 0, .int 0, .int 0, .int 0, .long 0, .int 0, .ref q_1125, .ref q_1126, .ref q_1127, .ref q_1128, .ref q_1129, .ref q_1130, .ref q_1131, .ref q_1132, .ref q_1133, .ref q_1134, .int 0, .int 0, .int 0, .int (-1), .int (-1), .int (-1), .ref q_1135, .int (-1), .int (-1), .ref q_1136, .int (-1), .int (-1), .ref q_1137, .int 0, .int 0, .ref q_1138, .ref q_1139, .int 0, .int 0, .ref q_1140, .int 0, .int 0, .int 0, .int 0])), (aI ca q_1126 89 u_1143), (aZ ca q_1134 2 u_1144)] H := hP
  have hD : va_D A [(aI ca q_1124 940 (fun _ => 0)), (aI ca q_1125 376 g_1654), (aI ca q_1127 752 (fun _ => 0)), (aI ca q_1128 360 (fun _ => 0)), (aI ca q_1129 45 (fun _ => 0)), (aJ ca q_1130 19 (fun _ => 0)), (aJ ca q_1131 19 (fun _ => 0)), (aJ ca q_1132 38 (fun _ => 0)), (aZ ca q_1133 2 (fun _ => 0)), (aI ca q_1135 10 (fun _ => 0)), (aZ ca q_1136 1024 (fun _ => 0)), (aI ca q_1137 64 (fun _ => 0)), (aI ca q_1138 80 (fun _ => 0)), (aI ca q_1139 4 (fun _ => 0)), (aI ca q_1140 240 (fun _ => 0)), (h0, .inr (11, [.int 0, .ref q_1124, .int 0, .int 0, .int 0, .int 0, .int 0, .int 0, .int 0, .int 0, .int 0, .int 0, .long 0, .int 0, .ref q_1125, .ref q_1126, .ref q_1127, .ref q_1128, .ref q_1129, .ref q_1130, .ref q_1131, .ref q_1132, .ref q_1133, .ref q_1134, .int 0, .int 0, .int 0, .int (-1), .int (-1), .int (-1), .ref q_1135, .int (-1), .int (-1), .ref q_1136, .int (-1), .int (-1), .ref q_1137, .int 0, .int 0, .ref q_1138, .ref q_1139, .int 0, .int 0, .ref q_1140, .int 0, .int 0, .int 0, .int 0])), (aI ca q_1126 89 u_1143), (aZ ca q_1134 2 u_1144)] := hD
  refine lv_iinc (v := 52) (lv' := [(1, .int 52), (0, .ref h0)]) hx hb dX12_init_202 hl (k := 0) rfl (by decide) (by decide) rfl (fun ls hl => ?_)
  refine lv_goto (tgt := 184) hx hb dX12_init_205 (by decide) ?_
  clear s_1641 s_1642 s_1643 s_1644 s_1645 s_1646 s_1647 s_1648 s_1649 s_1650 s_1651 s_1652 ex_1653 eg_1654
  refine lv_iload_n hx hb dX12_init_184 rfl (lv_at hl 0 rfl) ?_
  refine lv_bipush (v := 89) hx hb dX12_init_185 (by decide) ?_
  refine lv_icmp_ge (tgt := 208) hx hb dX12_init_187 (by decide) (fun c => absurd c (by decide)) (fun _ => ?_)
  refine lv_aload_n hx hb dX12_init_190 rfl (lv_at hl 1 rfl) ?_
  refine va_get (D := D) (ci := 11) (v := .ref q_1125) (C := RX12) (T := TX12) (N := 48) hx hb hts k6 hown hK.1 hP 15 rfl rfl 14 (by decide) k7 (fun _ h9 => h9) rfl dX12_init_191 ?_
  refine lv_iload_n hx hb dX12_init_194 rfl (lv_at hl 0 rfl) ?_
  refine lv_aload_n hx hb dX12_init_195 rfl (lv_at hl 1 rfl) ?_
  refine va_get (D := D) (ci := 11) (v := .ref q_1126) (C := RX12) (T := TX12) (N := 48) hx hb hts k6 hown hK.1 hP 15 rfl rfl 15 (by decide) k8 (fun _ h9 => h9) rfl dX12_init_196 ?_
  refine lv_iload_n hx hb dX12_init_199 rfl (lv_at hl 0 rfl) ?_
  refine va_iald hx hb hK.1 hP 16 0 rfl rfl (rg_in (⟨by decide, by decide⟩ : rg 52 52 (52 : Int32)) (by decide) (by decide)) dX12_init_200 ?_
  refine lv_topi (fun x_1668 ex_1668 => ?_)
  refine va_iast hx hb hK.1 hP hD hS 1 0 rfl rfl (rg_in (⟨by decide, by decide⟩ : rg 52 52 (52 : Int32)) (by decide) (by decide)) dX12_init_201 (fun H locs hP hD hS => ?_)
  obtain ⟨g_1669, eg_1669⟩ : ∃ y : Nat → Int32, y = upd g_1654 (52 : Int32).toNatClampNeg (x_1668 : Int32) := ⟨_, rfl⟩
  rw [← eg_1669] at hP hD
  have s_1671 : sg 53 376 0 0 g_1669 := sg_out (sg_w s_1656 (by decide) (by decide) (by decide) (by decide)) eg_1669 (⟨by decide, by decide⟩ : rg 52 52 (52 : Int32)) (by decide) (by decide)
  have s_1672 : sg 0 1 0 10 g_1669 := sg_out s_1657 eg_1669 (⟨by decide, by decide⟩ : rg 52 52 (52 : Int32)) (by decide) (by decide)
  have s_1673 : sg 1 2 0 4 g_1669 := sg_out s_1658 eg_1669 (⟨by decide, by decide⟩ : rg 52 52 (52 : Int32)) (by decide) (by decide)
  have s_1674 : sg 2 3 0 5 g_1669 := sg_out s_1659 eg_1669 (⟨by decide, by decide⟩ : rg 52 52 (52 : Int32)) (by decide) (by decide)
  have s_1675 : sg 3 4 3 3 g_1669 := sg_out s_1660 eg_1669 (⟨by decide, by decide⟩ : rg 52 52 (52 : Int32)) (by decide) (by decide)
  have s_1676 : sg 4 5 1 1 g_1669 := sg_out s_1661 eg_1669 (⟨by decide, by decide⟩ : rg 52 52 (52 : Int32)) (by decide) (by decide)
  have s_1677 : sg 35 36 0 1023 g_1669 := sg_out s_1662 eg_1669 (⟨by decide, by decide⟩ : rg 52 52 (52 : Int32)) (by decide) (by decide)
  have s_1678 : sg 44 45 0 3 g_1669 := sg_out s_1663 eg_1669 (⟨by decide, by decide⟩ : rg 52 52 (52 : Int32)) (by decide) (by decide)
  have s_1679 : sg 45 46 0 3 g_1669 := sg_out s_1664 eg_1669 (⟨by decide, by decide⟩ : rg 52 52 (52 : Int32)) (by decide) (by decide)
  have s_1680 : sg 46 47 0 3 g_1669 := sg_out s_1665 eg_1669 (⟨by decide, by decide⟩ : rg 52 52 (52 : Int32)) (by decide) (by decide)
  have s_1681 : sg 47 48 0 3 g_1669 := sg_out s_1666 eg_1669 (⟨by decide, by decide⟩ : rg 52 52 (52 : Int32)) (by decide) (by decide)
  have s_1682 : sg 48 49 0 3 g_1669 := sg_out s_1667 eg_1669 (⟨by decide, by decide⟩ : rg 52 52 (52 : Int32)) (by decide) (by decide)
  have hP : va_P D vwCl [(aI ca q_1124 940 (fun _ => 0)), (aI ca q_1125 376 g_1669), (aI ca q_1127 752 (fun _ => 0)), (aI ca q_1128 360 (fun _ => 0)), (aI ca q_1129 45 (fun _ => 0)), (aJ ca q_1130 19 (fun _ => 0)), (aJ ca q_1131 19 (fun _ => 0)), (aJ ca q_1132 38 (fun _ => 0)), (aZ ca q_1133 2 (fun _ => 0)), (aI ca q_1135 10 (fun _ => 0)), (aZ ca q_1136 1024 (fun _ => 0)), (aI ca q_1137 64 (fun _ => 0)), (aI ca q_1138 80 (fun _ => 0)), (aI ca q_1139 4 (fun _ => 0)), (aI ca q_1140 240 (fun _ => 0)), (h0, .inr (11, [.int 0, .ref q_1124, .int 0, .int 0, .int 0, .int 0, .int 0, .int 0, .int 0, .int 0, .int 0, .int 0, .long 0, .int 0, .ref q_1125, .ref q_1126, .ref q_1127, .ref q_1128, .ref q_1129, .ref q_1130, .ref q_1131, .ref q_1132, .ref q_1133, .ref q_1134, .int 0, .int 0, .int 0, .int (-1), .int (-1), .int (-1), .ref q_1135, .int (-1), .int (-1), .ref q_1136, .int (-1), .int (-1), .ref q_1137, .int 0, .int 0, .ref q_1138, .ref q_1139, .int 0, .int 0, .ref q_1140, .int 0, .int 0, .int 0, .int 0])), (aI ca q_1126 89 u_1143), (aZ ca q_1134 2 u_1144)] H := hP
  have hD : va_D A [(aI ca q_1124 940 (fun _ => 0)), (aI ca q_1125 376 g_1669), (aI ca q_1127 752 (fun _ => 0)), (aI ca q_1128 360 (fun _ => 0)), (aI ca q_1129 45 (fun _ => 0)), (aJ ca q_1130 19 (fun _ => 0)), (aJ ca q_1131 19 (fun _ => 0)), (aJ ca q_1132 38 (fun _ => 0)), (aZ ca q_1133 2 (fun _ => 0)), (aI ca q_1135 10 (fun _ => 0)), (aZ ca q_1136 1024 (fun _ => 0)), (aI ca q_1137 64 (fun _ => 0)), (aI ca q_1138 80 (fun _ => 0)), (aI ca q_1139 4 (fun _ => 0)), (aI ca q_1140 240 (fun _ => 0)), (h0, .inr (11, [.int 0, .ref q_1124, .int 0, .int 0, .int 0, .int 0, .int 0, .int 0, .int 0, .int 0, .int 0, .int 0, .long 0, .int 0, .ref q_1125, .ref q_1126, .ref q_1127, .ref q_1128, .ref q_1129, .ref q_1130, .ref q_1131, .ref q_1132, .ref q_1133, .ref q_1134, .int 0, .int 0, .int 0, .int (-1), .int (-1), .int (-1), .ref q_1135, .int (-1), .int (-1), .ref q_1136, .int (-1), .int (-1), .ref q_1137, .int 0, .int 0, .ref q_1138, .ref q_1139, .int 0, .int 0, .ref q_1140, .int 0, .int 0, .int 0, .int 0])), (aI ca q_1126 89 u_1143), (aZ ca q_1134 2 u_1144)] := hD
  refine lv_iinc (v := 53) (lv' := [(1, .int 53), (0, .ref h0)]) hx hb dX12_init_202 hl (k := 0) rfl (by decide) (by decide) rfl (fun ls hl => ?_)
  refine lv_goto (tgt := 184) hx hb dX12_init_205 (by decide) ?_
  clear s_1656 s_1657 s_1658 s_1659 s_1660 s_1661 s_1662 s_1663 s_1664 s_1665 s_1666 s_1667 ex_1668 eg_1669
  refine lv_iload_n hx hb dX12_init_184 rfl (lv_at hl 0 rfl) ?_
  refine lv_bipush (v := 89) hx hb dX12_init_185 (by decide) ?_
  refine lv_icmp_ge (tgt := 208) hx hb dX12_init_187 (by decide) (fun c => absurd c (by decide)) (fun _ => ?_)
  refine lv_aload_n hx hb dX12_init_190 rfl (lv_at hl 1 rfl) ?_
  refine va_get (D := D) (ci := 11) (v := .ref q_1125) (C := RX12) (T := TX12) (N := 48) hx hb hts k6 hown hK.1 hP 15 rfl rfl 14 (by decide) k7 (fun _ h9 => h9) rfl dX12_init_191 ?_
  refine lv_iload_n hx hb dX12_init_194 rfl (lv_at hl 0 rfl) ?_
  refine lv_aload_n hx hb dX12_init_195 rfl (lv_at hl 1 rfl) ?_
  refine va_get (D := D) (ci := 11) (v := .ref q_1126) (C := RX12) (T := TX12) (N := 48) hx hb hts k6 hown hK.1 hP 15 rfl rfl 15 (by decide) k8 (fun _ h9 => h9) rfl dX12_init_196 ?_
  refine lv_iload_n hx hb dX12_init_199 rfl (lv_at hl 0 rfl) ?_
  refine va_iald hx hb hK.1 hP 16 0 rfl rfl (rg_in (⟨by decide, by decide⟩ : rg 53 53 (53 : Int32)) (by decide) (by decide)) dX12_init_200 ?_
  refine lv_topi (fun x_1683 ex_1683 => ?_)
  refine va_iast hx hb hK.1 hP hD hS 1 0 rfl rfl (rg_in (⟨by decide, by decide⟩ : rg 53 53 (53 : Int32)) (by decide) (by decide)) dX12_init_201 (fun H locs hP hD hS => ?_)
  obtain ⟨g_1684, eg_1684⟩ : ∃ y : Nat → Int32, y = upd g_1669 (53 : Int32).toNatClampNeg (x_1683 : Int32) := ⟨_, rfl⟩
  rw [← eg_1684] at hP hD
  have s_1686 : sg 54 376 0 0 g_1684 := sg_out (sg_w s_1671 (by decide) (by decide) (by decide) (by decide)) eg_1684 (⟨by decide, by decide⟩ : rg 53 53 (53 : Int32)) (by decide) (by decide)
  have s_1687 : sg 0 1 0 10 g_1684 := sg_out s_1672 eg_1684 (⟨by decide, by decide⟩ : rg 53 53 (53 : Int32)) (by decide) (by decide)
  have s_1688 : sg 1 2 0 4 g_1684 := sg_out s_1673 eg_1684 (⟨by decide, by decide⟩ : rg 53 53 (53 : Int32)) (by decide) (by decide)
  have s_1689 : sg 2 3 0 5 g_1684 := sg_out s_1674 eg_1684 (⟨by decide, by decide⟩ : rg 53 53 (53 : Int32)) (by decide) (by decide)
  have s_1690 : sg 3 4 3 3 g_1684 := sg_out s_1675 eg_1684 (⟨by decide, by decide⟩ : rg 53 53 (53 : Int32)) (by decide) (by decide)
  have s_1691 : sg 4 5 1 1 g_1684 := sg_out s_1676 eg_1684 (⟨by decide, by decide⟩ : rg 53 53 (53 : Int32)) (by decide) (by decide)
  have s_1692 : sg 35 36 0 1023 g_1684 := sg_out s_1677 eg_1684 (⟨by decide, by decide⟩ : rg 53 53 (53 : Int32)) (by decide) (by decide)
  have s_1693 : sg 44 45 0 3 g_1684 := sg_out s_1678 eg_1684 (⟨by decide, by decide⟩ : rg 53 53 (53 : Int32)) (by decide) (by decide)
  have s_1694 : sg 45 46 0 3 g_1684 := sg_out s_1679 eg_1684 (⟨by decide, by decide⟩ : rg 53 53 (53 : Int32)) (by decide) (by decide)
  have s_1695 : sg 46 47 0 3 g_1684 := sg_out s_1680 eg_1684 (⟨by decide, by decide⟩ : rg 53 53 (53 : Int32)) (by decide) (by decide)
  have s_1696 : sg 47 48 0 3 g_1684 := sg_out s_1681 eg_1684 (⟨by decide, by decide⟩ : rg 53 53 (53 : Int32)) (by decide) (by decide)
  have s_1697 : sg 48 49 0 3 g_1684 := sg_out s_1682 eg_1684 (⟨by decide, by decide⟩ : rg 53 53 (53 : Int32)) (by decide) (by decide)
  have hP : va_P D vwCl [(aI ca q_1124 940 (fun _ => 0)), (aI ca q_1125 376 g_1684), (aI ca q_1127 752 (fun _ => 0)), (aI ca q_1128 360 (fun _ => 0)), (aI ca q_1129 45 (fun _ => 0)), (aJ ca q_1130 19 (fun _ => 0)), (aJ ca q_1131 19 (fun _ => 0)), (aJ ca q_1132 38 (fun _ => 0)), (aZ ca q_1133 2 (fun _ => 0)), (aI ca q_1135 10 (fun _ => 0)), (aZ ca q_1136 1024 (fun _ => 0)), (aI ca q_1137 64 (fun _ => 0)), (aI ca q_1138 80 (fun _ => 0)), (aI ca q_1139 4 (fun _ => 0)), (aI ca q_1140 240 (fun _ => 0)), (h0, .inr (11, [.int 0, .ref q_1124, .int 0, .int 0, .int 0, .int 0, .int 0, .int 0, .int 0, .int 0, .int 0, .int 0, .long 0, .int 0, .ref q_1125, .ref q_1126, .ref q_1127, .ref q_1128, .ref q_1129, .ref q_1130, .ref q_1131, .ref q_1132, .ref q_1133, .ref q_1134, .int 0, .int 0, .int 0, .int (-1), .int (-1), .int (-1), .ref q_1135, .int (-1), .int (-1), .ref q_1136, .int (-1), .int (-1), .ref q_1137, .int 0, .int 0, .ref q_1138, .ref q_1139, .int 0, .int 0, .ref q_1140, .int 0, .int 0, .int 0, .int 0])), (aI ca q_1126 89 u_1143), (aZ ca q_1134 2 u_1144)] H := hP
  have hD : va_D A [(aI ca q_1124 940 (fun _ => 0)), (aI ca q_1125 376 g_1684), (aI ca q_1127 752 (fun _ => 0)), (aI ca q_1128 360 (fun _ => 0)), (aI ca q_1129 45 (fun _ => 0)), (aJ ca q_1130 19 (fun _ => 0)), (aJ ca q_1131 19 (fun _ => 0)), (aJ ca q_1132 38 (fun _ => 0)), (aZ ca q_1133 2 (fun _ => 0)), (aI ca q_1135 10 (fun _ => 0)), (aZ ca q_1136 1024 (fun _ => 0)), (aI ca q_1137 64 (fun _ => 0)), (aI ca q_1138 80 (fun _ => 0)), (aI ca q_1139 4 (fun _ => 0)), (aI ca q_1140 240 (fun _ => 0)), (h0, .inr (11, [.int 0, .ref q_1124, .int 0, .int 0, .int 0, .int 0, .int 0, .int 0, .int 0, .int 0, .int 0, .int 0, .long 0, .int 0, .ref q_1125, .ref q_1126, .ref q_1127, .ref q_1128, .ref q_1129, .ref q_1130, .ref q_1131, .ref q_1132, .ref q_1133, .ref q_1134, .int 0, .int 0, .int 0, .int (-1), .int (-1), .int (-1), .ref q_1135, .int (-1), .int (-1), .ref q_1136, .int (-1), .int (-1), .ref q_1137, .int 0, .int 0, .ref q_1138, .ref q_1139, .int 0, .int 0, .ref q_1140, .int 0, .int 0, .int 0, .int 0])), (aI ca q_1126 89 u_1143), (aZ ca q_1134 2 u_1144)] := hD
  refine lv_iinc (v := 54) (lv' := [(1, .int 54), (0, .ref h0)]) hx hb dX12_init_202 hl (k := 0) rfl (by decide) (by decide) rfl (fun ls hl => ?_)
  refine lv_goto (tgt := 184) hx hb dX12_init_205 (by decide) ?_
  clear s_1671 s_1672 s_1673 s_1674 s_1675 s_1676 s_1677 s_1678 s_1679 s_1680 s_1681 s_1682 ex_1683 eg_1684
  refine lv_iload_n hx hb dX12_init_184 rfl (lv_at hl 0 rfl) ?_
  refine lv_bipush (v := 89) hx hb dX12_init_185 (by decide) ?_
  refine lv_icmp_ge (tgt := 208) hx hb dX12_init_187 (by decide) (fun c => absurd c (by decide)) (fun _ => ?_)
  refine lv_aload_n hx hb dX12_init_190 rfl (lv_at hl 1 rfl) ?_
  refine va_get (D := D) (ci := 11) (v := .ref q_1125) (C := RX12) (T := TX12) (N := 48) hx hb hts k6 hown hK.1 hP 15 rfl rfl 14 (by decide) k7 (fun _ h9 => h9) rfl dX12_init_191 ?_
  refine lv_iload_n hx hb dX12_init_194 rfl (lv_at hl 0 rfl) ?_
  refine lv_aload_n hx hb dX12_init_195 rfl (lv_at hl 1 rfl) ?_
  refine va_get (D := D) (ci := 11) (v := .ref q_1126) (C := RX12) (T := TX12) (N := 48) hx hb hts k6 hown hK.1 hP 15 rfl rfl 15 (by decide) k8 (fun _ h9 => h9) rfl dX12_init_196 ?_
  refine lv_iload_n hx hb dX12_init_199 rfl (lv_at hl 0 rfl) ?_
  refine va_iald hx hb hK.1 hP 16 0 rfl rfl (rg_in (⟨by decide, by decide⟩ : rg 54 54 (54 : Int32)) (by decide) (by decide)) dX12_init_200 ?_
  refine lv_topi (fun x_1698 ex_1698 => ?_)
  refine va_iast hx hb hK.1 hP hD hS 1 0 rfl rfl (rg_in (⟨by decide, by decide⟩ : rg 54 54 (54 : Int32)) (by decide) (by decide)) dX12_init_201 (fun H locs hP hD hS => ?_)
  obtain ⟨g_1699, eg_1699⟩ : ∃ y : Nat → Int32, y = upd g_1684 (54 : Int32).toNatClampNeg (x_1698 : Int32) := ⟨_, rfl⟩
  rw [← eg_1699] at hP hD
  have s_1701 : sg 55 376 0 0 g_1699 := sg_out (sg_w s_1686 (by decide) (by decide) (by decide) (by decide)) eg_1699 (⟨by decide, by decide⟩ : rg 54 54 (54 : Int32)) (by decide) (by decide)
  have s_1702 : sg 0 1 0 10 g_1699 := sg_out s_1687 eg_1699 (⟨by decide, by decide⟩ : rg 54 54 (54 : Int32)) (by decide) (by decide)
  have s_1703 : sg 1 2 0 4 g_1699 := sg_out s_1688 eg_1699 (⟨by decide, by decide⟩ : rg 54 54 (54 : Int32)) (by decide) (by decide)
  have s_1704 : sg 2 3 0 5 g_1699 := sg_out s_1689 eg_1699 (⟨by decide, by decide⟩ : rg 54 54 (54 : Int32)) (by decide) (by decide)
  have s_1705 : sg 3 4 3 3 g_1699 := sg_out s_1690 eg_1699 (⟨by decide, by decide⟩ : rg 54 54 (54 : Int32)) (by decide) (by decide)
  have s_1706 : sg 4 5 1 1 g_1699 := sg_out s_1691 eg_1699 (⟨by decide, by decide⟩ : rg 54 54 (54 : Int32)) (by decide) (by decide)
  have s_1707 : sg 35 36 0 1023 g_1699 := sg_out s_1692 eg_1699 (⟨by decide, by decide⟩ : rg 54 54 (54 : Int32)) (by decide) (by decide)
  have s_1708 : sg 44 45 0 3 g_1699 := sg_out s_1693 eg_1699 (⟨by decide, by decide⟩ : rg 54 54 (54 : Int32)) (by decide) (by decide)
  have s_1709 : sg 45 46 0 3 g_1699 := sg_out s_1694 eg_1699 (⟨by decide, by decide⟩ : rg 54 54 (54 : Int32)) (by decide) (by decide)
  have s_1710 : sg 46 47 0 3 g_1699 := sg_out s_1695 eg_1699 (⟨by decide, by decide⟩ : rg 54 54 (54 : Int32)) (by decide) (by decide)
  have s_1711 : sg 47 48 0 3 g_1699 := sg_out s_1696 eg_1699 (⟨by decide, by decide⟩ : rg 54 54 (54 : Int32)) (by decide) (by decide)
  have s_1712 : sg 48 49 0 3 g_1699 := sg_out s_1697 eg_1699 (⟨by decide, by decide⟩ : rg 54 54 (54 : Int32)) (by decide) (by decide)
  have hP : va_P D vwCl [(aI ca q_1124 940 (fun _ => 0)), (aI ca q_1125 376 g_1699), (aI ca q_1127 752 (fun _ => 0)), (aI ca q_1128 360 (fun _ => 0)), (aI ca q_1129 45 (fun _ => 0)), (aJ ca q_1130 19 (fun _ => 0)), (aJ ca q_1131 19 (fun _ => 0)), (aJ ca q_1132 38 (fun _ => 0)), (aZ ca q_1133 2 (fun _ => 0)), (aI ca q_1135 10 (fun _ => 0)), (aZ ca q_1136 1024 (fun _ => 0)), (aI ca q_1137 64 (fun _ => 0)), (aI ca q_1138 80 (fun _ => 0)), (aI ca q_1139 4 (fun _ => 0)), (aI ca q_1140 240 (fun _ => 0)), (h0, .inr (11, [.int 0, .ref q_1124, .int 0, .int 0, .int 0, .int 0, .int 0, .int 0, .int 0, .int 0, .int 0, .int 0, .long 0, .int 0, .ref q_1125, .ref q_1126, .ref q_1127, .ref q_1128, .ref q_1129, .ref q_1130, .ref q_1131, .ref q_1132, .ref q_1133, .ref q_1134, .int 0, .int 0, .int 0, .int (-1), .int (-1), .int (-1), .ref q_1135, .int (-1), .int (-1), .ref q_1136, .int (-1), .int (-1), .ref q_1137, .int 0, .int 0, .ref q_1138, .ref q_1139, .int 0, .int 0, .ref q_1140, .int 0, .int 0, .int 0, .int 0])), (aI ca q_1126 89 u_1143), (aZ ca q_1134 2 u_1144)] H := hP
  have hD : va_D A [(aI ca q_1124 940 (fun _ => 0)), (aI ca q_1125 376 g_1699), (aI ca q_1127 752 (fun _ => 0)), (aI ca q_1128 360 (fun _ => 0)), (aI ca q_1129 45 (fun _ => 0)), (aJ ca q_1130 19 (fun _ => 0)), (aJ ca q_1131 19 (fun _ => 0)), (aJ ca q_1132 38 (fun _ => 0)), (aZ ca q_1133 2 (fun _ => 0)), (aI ca q_1135 10 (fun _ => 0)), (aZ ca q_1136 1024 (fun _ => 0)), (aI ca q_1137 64 (fun _ => 0)), (aI ca q_1138 80 (fun _ => 0)), (aI ca q_1139 4 (fun _ => 0)), (aI ca q_1140 240 (fun _ => 0)), (h0, .inr (11, [.int 0, .ref q_1124, .int 0, .int 0, .int 0, .int 0, .int 0, .int 0, .int 0, .int 0, .int 0, .int 0, .long 0, .int 0, .ref q_1125, .ref q_1126, .ref q_1127, .ref q_1128, .ref q_1129, .ref q_1130, .ref q_1131, .ref q_1132, .ref q_1133, .ref q_1134, .int 0, .int 0, .int 0, .int (-1), .int (-1), .int (-1), .ref q_1135, .int (-1), .int (-1), .ref q_1136, .int (-1), .int (-1), .ref q_1137, .int 0, .int 0, .ref q_1138, .ref q_1139, .int 0, .int 0, .ref q_1140, .int 0, .int 0, .int 0, .int 0])), (aI ca q_1126 89 u_1143), (aZ ca q_1134 2 u_1144)] := hD
  refine lv_iinc (v := 55) (lv' := [(1, .int 55), (0, .ref h0)]) hx hb dX12_init_202 hl (k := 0) rfl (by decide) (by decide) rfl (fun ls hl => ?_)
  refine lv_goto (tgt := 184) hx hb dX12_init_205 (by decide) ?_
  clear s_1686 s_1687 s_1688 s_1689 s_1690 s_1691 s_1692 s_1693 s_1694 s_1695 s_1696 s_1697 ex_1698 eg_1699
  refine lv_iload_n hx hb dX12_init_184 rfl (lv_at hl 0 rfl) ?_
  refine lv_bipush (v := 89) hx hb dX12_init_185 (by decide) ?_
  refine lv_icmp_ge (tgt := 208) hx hb dX12_init_187 (by decide) (fun c => absurd c (by decide)) (fun _ => ?_)
  refine lv_aload_n hx hb dX12_init_190 rfl (lv_at hl 1 rfl) ?_
  refine va_get (D := D) (ci := 11) (v := .ref q_1125) (C := RX12) (T := TX12) (N := 48) hx hb hts k6 hown hK.1 hP 15 rfl rfl 14 (by decide) k7 (fun _ h9 => h9) rfl dX12_init_191 ?_
  refine lv_iload_n hx hb dX12_init_194 rfl (lv_at hl 0 rfl) ?_
  refine lv_aload_n hx hb dX12_init_195 rfl (lv_at hl 1 rfl) ?_
  refine va_get (D := D) (ci := 11) (v := .ref q_1126) (C := RX12) (T := TX12) (N := 48) hx hb hts k6 hown hK.1 hP 15 rfl rfl 15 (by decide) k8 (fun _ h9 => h9) rfl dX12_init_196 ?_
  refine lv_iload_n hx hb dX12_init_199 rfl (lv_at hl 0 rfl) ?_
  refine va_iald hx hb hK.1 hP 16 0 rfl rfl (rg_in (⟨by decide, by decide⟩ : rg 55 55 (55 : Int32)) (by decide) (by decide)) dX12_init_200 ?_
  refine lv_topi (fun x_1713 ex_1713 => ?_)
  refine va_iast hx hb hK.1 hP hD hS 1 0 rfl rfl (rg_in (⟨by decide, by decide⟩ : rg 55 55 (55 : Int32)) (by decide) (by decide)) dX12_init_201 (fun H locs hP hD hS => ?_)
  obtain ⟨g_1714, eg_1714⟩ : ∃ y : Nat → Int32, y = upd g_1699 (55 : Int32).toNatClampNeg (x_1713 : Int32) := ⟨_, rfl⟩
  rw [← eg_1714] at hP hD
  have s_1716 : sg 56 376 0 0 g_1714 := sg_out (sg_w s_1701 (by decide) (by decide) (by decide) (by decide)) eg_1714 (⟨by decide, by decide⟩ : rg 55 55 (55 : Int32)) (by decide) (by decide)
  have s_1717 : sg 0 1 0 10 g_1714 := sg_out s_1702 eg_1714 (⟨by decide, by decide⟩ : rg 55 55 (55 : Int32)) (by decide) (by decide)
  have s_1718 : sg 1 2 0 4 g_1714 := sg_out s_1703 eg_1714 (⟨by decide, by decide⟩ : rg 55 55 (55 : Int32)) (by decide) (by decide)
  have s_1719 : sg 2 3 0 5 g_1714 := sg_out s_1704 eg_1714 (⟨by decide, by decide⟩ : rg 55 55 (55 : Int32)) (by decide) (by decide)
  have s_1720 : sg 3 4 3 3 g_1714 := sg_out s_1705 eg_1714 (⟨by decide, by decide⟩ : rg 55 55 (55 : Int32)) (by decide) (by decide)
  have s_1721 : sg 4 5 1 1 g_1714 := sg_out s_1706 eg_1714 (⟨by decide, by decide⟩ : rg 55 55 (55 : Int32)) (by decide) (by decide)
  have s_1722 : sg 35 36 0 1023 g_1714 := sg_out s_1707 eg_1714 (⟨by decide, by decide⟩ : rg 55 55 (55 : Int32)) (by decide) (by decide)
  have s_1723 : sg 44 45 0 3 g_1714 := sg_out s_1708 eg_1714 (⟨by decide, by decide⟩ : rg 55 55 (55 : Int32)) (by decide) (by decide)
  have s_1724 : sg 45 46 0 3 g_1714 := sg_out s_1709 eg_1714 (⟨by decide, by decide⟩ : rg 55 55 (55 : Int32)) (by decide) (by decide)
  have s_1725 : sg 46 47 0 3 g_1714 := sg_out s_1710 eg_1714 (⟨by decide, by decide⟩ : rg 55 55 (55 : Int32)) (by decide) (by decide)
  have s_1726 : sg 47 48 0 3 g_1714 := sg_out s_1711 eg_1714 (⟨by decide, by decide⟩ : rg 55 55 (55 : Int32)) (by decide) (by decide)
  have s_1727 : sg 48 49 0 3 g_1714 := sg_out s_1712 eg_1714 (⟨by decide, by decide⟩ : rg 55 55 (55 : Int32)) (by decide) (by decide)
  have hP : va_P D vwCl [(aI ca q_1124 940 (fun _ => 0)), (aI ca q_1125 376 g_1714), (aI ca q_1127 752 (fun _ => 0)), (aI ca q_1128 360 (fun _ => 0)), (aI ca q_1129 45 (fun _ => 0)), (aJ ca q_1130 19 (fun _ => 0)), (aJ ca q_1131 19 (fun _ => 0)), (aJ ca q_1132 38 (fun _ => 0)), (aZ ca q_1133 2 (fun _ => 0)), (aI ca q_1135 10 (fun _ => 0)), (aZ ca q_1136 1024 (fun _ => 0)), (aI ca q_1137 64 (fun _ => 0)), (aI ca q_1138 80 (fun _ => 0)), (aI ca q_1139 4 (fun _ => 0)), (aI ca q_1140 240 (fun _ => 0)), (h0, .inr (11, [.int 0, .ref q_1124, .int 0, .int 0, .int 0, .int 0, .int 0, .int 0, .int 0, .int 0, .int 0, .int 0, .long 0, .int 0, .ref q_1125, .ref q_1126, .ref q_1127, .ref q_1128, .ref q_1129, .ref q_1130, .ref q_1131, .ref q_1132, .ref q_1133, .ref q_1134, .int 0, .int 0, .int 0, .int (-1), .int (-1), .int (-1), .ref q_1135, .int (-1), .int (-1), .ref q_1136, .int (-1), .int (-1), .ref q_1137, .int 0, .int 0, .ref q_1138, .ref q_1139, .int 0, .int 0, .ref q_1140, .int 0, .int 0, .int 0, .int 0])), (aI ca q_1126 89 u_1143), (aZ ca q_1134 2 u_1144)] H := hP
  have hD : va_D A [(aI ca q_1124 940 (fun _ => 0)), (aI ca q_1125 376 g_1714), (aI ca q_1127 752 (fun _ => 0)), (aI ca q_1128 360 (fun _ => 0)), (aI ca q_1129 45 (fun _ => 0)), (aJ ca q_1130 19 (fun _ => 0)), (aJ ca q_1131 19 (fun _ => 0)), (aJ ca q_1132 38 (fun _ => 0)), (aZ ca q_1133 2 (fun _ => 0)), (aI ca q_1135 10 (fun _ => 0)), (aZ ca q_1136 1024 (fun _ => 0)), (aI ca q_1137 64 (fun _ => 0)), (aI ca q_1138 80 (fun _ => 0)), (aI ca q_1139 4 (fun _ => 0)), (aI ca q_1140 240 (fun _ => 0)), (h0, .inr (11, [.int 0, .ref q_1124, .int 0, .int 0, .int 0, .int 0, .int 0, .int 0, .int 0, .int 0, .int 0, .int 0, .long 0, .int 0, .ref q_1125, .ref q_1126, .ref q_1127, .ref q_1128, .ref q_1129, .ref q_1130, .ref q_1131, .ref q_1132, .ref q_1133, .ref q_1134, .int 0, .int 0, .int 0, .int (-1), .int (-1), .int (-1), .ref q_1135, .int (-1), .int (-1), .ref q_1136, .int (-1), .int (-1), .ref q_1137, .int 0, .int 0, .ref q_1138, .ref q_1139, .int 0, .int 0, .ref q_1140, .int 0, .int 0, .int 0, .int 0])), (aI ca q_1126 89 u_1143), (aZ ca q_1134 2 u_1144)] := hD
  refine lv_iinc (v := 56) (lv' := [(1, .int 56), (0, .ref h0)]) hx hb dX12_init_202 hl (k := 0) rfl (by decide) (by decide) rfl (fun ls hl => ?_)
  refine lv_goto (tgt := 184) hx hb dX12_init_205 (by decide) ?_
  clear s_1701 s_1702 s_1703 s_1704 s_1705 s_1706 s_1707 s_1708 s_1709 s_1710 s_1711 s_1712 ex_1713 eg_1714
  refine lv_iload_n hx hb dX12_init_184 rfl (lv_at hl 0 rfl) ?_
  refine lv_bipush (v := 89) hx hb dX12_init_185 (by decide) ?_
  refine lv_icmp_ge (tgt := 208) hx hb dX12_init_187 (by decide) (fun c => absurd c (by decide)) (fun _ => ?_)
  refine lv_aload_n hx hb dX12_init_190 rfl (lv_at hl 1 rfl) ?_
  refine va_get (D := D) (ci := 11) (v := .ref q_1125) (C := RX12) (T := TX12) (N := 48) hx hb hts k6 hown hK.1 hP 15 rfl rfl 14 (by decide) k7 (fun _ h9 => h9) rfl dX12_init_191 ?_
  refine lv_iload_n hx hb dX12_init_194 rfl (lv_at hl 0 rfl) ?_
  refine lv_aload_n hx hb dX12_init_195 rfl (lv_at hl 1 rfl) ?_
  refine va_get (D := D) (ci := 11) (v := .ref q_1126) (C := RX12) (T := TX12) (N := 48) hx hb hts k6 hown hK.1 hP 15 rfl rfl 15 (by decide) k8 (fun _ h9 => h9) rfl dX12_init_196 ?_
  refine lv_iload_n hx hb dX12_init_199 rfl (lv_at hl 0 rfl) ?_
  refine va_iald hx hb hK.1 hP 16 0 rfl rfl (rg_in (⟨by decide, by decide⟩ : rg 56 56 (56 : Int32)) (by decide) (by decide)) dX12_init_200 ?_
  refine lv_topi (fun x_1728 ex_1728 => ?_)
  refine va_iast hx hb hK.1 hP hD hS 1 0 rfl rfl (rg_in (⟨by decide, by decide⟩ : rg 56 56 (56 : Int32)) (by decide) (by decide)) dX12_init_201 (fun H locs hP hD hS => ?_)
  obtain ⟨g_1729, eg_1729⟩ : ∃ y : Nat → Int32, y = upd g_1714 (56 : Int32).toNatClampNeg (x_1728 : Int32) := ⟨_, rfl⟩
  rw [← eg_1729] at hP hD
  have s_1731 : sg 57 376 0 0 g_1729 := sg_out (sg_w s_1716 (by decide) (by decide) (by decide) (by decide)) eg_1729 (⟨by decide, by decide⟩ : rg 56 56 (56 : Int32)) (by decide) (by decide)
  have s_1732 : sg 0 1 0 10 g_1729 := sg_out s_1717 eg_1729 (⟨by decide, by decide⟩ : rg 56 56 (56 : Int32)) (by decide) (by decide)
  have s_1733 : sg 1 2 0 4 g_1729 := sg_out s_1718 eg_1729 (⟨by decide, by decide⟩ : rg 56 56 (56 : Int32)) (by decide) (by decide)
  have s_1734 : sg 2 3 0 5 g_1729 := sg_out s_1719 eg_1729 (⟨by decide, by decide⟩ : rg 56 56 (56 : Int32)) (by decide) (by decide)
  have s_1735 : sg 3 4 3 3 g_1729 := sg_out s_1720 eg_1729 (⟨by decide, by decide⟩ : rg 56 56 (56 : Int32)) (by decide) (by decide)
  have s_1736 : sg 4 5 1 1 g_1729 := sg_out s_1721 eg_1729 (⟨by decide, by decide⟩ : rg 56 56 (56 : Int32)) (by decide) (by decide)
  have s_1737 : sg 35 36 0 1023 g_1729 := sg_out s_1722 eg_1729 (⟨by decide, by decide⟩ : rg 56 56 (56 : Int32)) (by decide) (by decide)
  have s_1738 : sg 44 45 0 3 g_1729 := sg_out s_1723 eg_1729 (⟨by decide, by decide⟩ : rg 56 56 (56 : Int32)) (by decide) (by decide)
  have s_1739 : sg 45 46 0 3 g_1729 := sg_out s_1724 eg_1729 (⟨by decide, by decide⟩ : rg 56 56 (56 : Int32)) (by decide) (by decide)
  have s_1740 : sg 46 47 0 3 g_1729 := sg_out s_1725 eg_1729 (⟨by decide, by decide⟩ : rg 56 56 (56 : Int32)) (by decide) (by decide)
  have s_1741 : sg 47 48 0 3 g_1729 := sg_out s_1726 eg_1729 (⟨by decide, by decide⟩ : rg 56 56 (56 : Int32)) (by decide) (by decide)
  have s_1742 : sg 48 49 0 3 g_1729 := sg_out s_1727 eg_1729 (⟨by decide, by decide⟩ : rg 56 56 (56 : Int32)) (by decide) (by decide)
  have hP : va_P D vwCl [(aI ca q_1124 940 (fun _ => 0)), (aI ca q_1125 376 g_1729), (aI ca q_1127 752 (fun _ => 0)), (aI ca q_1128 360 (fun _ => 0)), (aI ca q_1129 45 (fun _ => 0)), (aJ ca q_1130 19 (fun _ => 0)), (aJ ca q_1131 19 (fun _ => 0)), (aJ ca q_1132 38 (fun _ => 0)), (aZ ca q_1133 2 (fun _ => 0)), (aI ca q_1135 10 (fun _ => 0)), (aZ ca q_1136 1024 (fun _ => 0)), (aI ca q_1137 64 (fun _ => 0)), (aI ca q_1138 80 (fun _ => 0)), (aI ca q_1139 4 (fun _ => 0)), (aI ca q_1140 240 (fun _ => 0)), (h0, .inr (11, [.int 0, .ref q_1124, .int 0, .int 0, .int 0, .int 0, .int 0, .int 0, .int 0, .int 0, .int 0, .int 0, .long 0, .int 0, .ref q_1125, .ref q_1126, .ref q_1127, .ref q_1128, .ref q_1129, .ref q_1130, .ref q_1131, .ref q_1132, .ref q_1133, .ref q_1134, .int 0, .int 0, .int 0, .int (-1), .int (-1), .int (-1), .ref q_1135, .int (-1), .int (-1), .ref q_1136, .int (-1), .int (-1), .ref q_1137, .int 0, .int 0, .ref q_1138, .ref q_1139, .int 0, .int 0, .ref q_1140, .int 0, .int 0, .int 0, .int 0])), (aI ca q_1126 89 u_1143), (aZ ca q_1134 2 u_1144)] H := hP
  have hD : va_D A [(aI ca q_1124 940 (fun _ => 0)), (aI ca q_1125 376 g_1729), (aI ca q_1127 752 (fun _ => 0)), (aI ca q_1128 360 (fun _ => 0)), (aI ca q_1129 45 (fun _ => 0)), (aJ ca q_1130 19 (fun _ => 0)), (aJ ca q_1131 19 (fun _ => 0)), (aJ ca q_1132 38 (fun _ => 0)), (aZ ca q_1133 2 (fun _ => 0)), (aI ca q_1135 10 (fun _ => 0)), (aZ ca q_1136 1024 (fun _ => 0)), (aI ca q_1137 64 (fun _ => 0)), (aI ca q_1138 80 (fun _ => 0)), (aI ca q_1139 4 (fun _ => 0)), (aI ca q_1140 240 (fun _ => 0)), (h0, .inr (11, [.int 0, .ref q_1124, .int 0, .int 0, .int 0, .int 0, .int 0, .int 0, .int 0, .int 0, .int 0, .int 0, .long 0, .int 0, .ref q_1125, .ref q_1126, .ref q_1127, .ref q_1128, .ref q_1129, .ref q_1130, .ref q_1131, .ref q_1132, .ref q_1133, .ref q_1134, .int 0, .int 0, .int 0, .int (-1), .int (-1), .int (-1), .ref q_1135, .int (-1), .int (-1), .ref q_1136, .int (-1), .int (-1), .ref q_1137, .int 0, .int 0, .ref q_1138, .ref q_1139, .int 0, .int 0, .ref q_1140, .int 0, .int 0, .int 0, .int 0])), (aI ca q_1126 89 u_1143), (aZ ca q_1134 2 u_1144)] := hD
  refine lv_iinc (v := 57) (lv' := [(1, .int 57), (0, .ref h0)]) hx hb dX12_init_202 hl (k := 0) rfl (by decide) (by decide) rfl (fun ls hl => ?_)
  refine lv_goto (tgt := 184) hx hb dX12_init_205 (by decide) ?_
  clear s_1716 s_1717 s_1718 s_1719 s_1720 s_1721 s_1722 s_1723 s_1724 s_1725 s_1726 s_1727 ex_1728 eg_1729
  refine lv_iload_n hx hb dX12_init_184 rfl (lv_at hl 0 rfl) ?_
  refine lv_bipush (v := 89) hx hb dX12_init_185 (by decide) ?_
  refine lv_icmp_ge (tgt := 208) hx hb dX12_init_187 (by decide) (fun c => absurd c (by decide)) (fun _ => ?_)
  refine lv_aload_n hx hb dX12_init_190 rfl (lv_at hl 1 rfl) ?_
  refine va_get (D := D) (ci := 11) (v := .ref q_1125) (C := RX12) (T := TX12) (N := 48) hx hb hts k6 hown hK.1 hP 15 rfl rfl 14 (by decide) k7 (fun _ h9 => h9) rfl dX12_init_191 ?_
  refine lv_iload_n hx hb dX12_init_194 rfl (lv_at hl 0 rfl) ?_
  refine lv_aload_n hx hb dX12_init_195 rfl (lv_at hl 1 rfl) ?_
  refine va_get (D := D) (ci := 11) (v := .ref q_1126) (C := RX12) (T := TX12) (N := 48) hx hb hts k6 hown hK.1 hP 15 rfl rfl 15 (by decide) k8 (fun _ h9 => h9) rfl dX12_init_196 ?_
  refine lv_iload_n hx hb dX12_init_199 rfl (lv_at hl 0 rfl) ?_
  refine va_iald hx hb hK.1 hP 16 0 rfl rfl (rg_in (⟨by decide, by decide⟩ : rg 57 57 (57 : Int32)) (by decide) (by decide)) dX12_init_200 ?_
  refine lv_topi (fun x_1743 ex_1743 => ?_)
  refine va_iast hx hb hK.1 hP hD hS 1 0 rfl rfl (rg_in (⟨by decide, by decide⟩ : rg 57 57 (57 : Int32)) (by decide) (by decide)) dX12_init_201 (fun H locs hP hD hS => ?_)
  obtain ⟨g_1744, eg_1744⟩ : ∃ y : Nat → Int32, y = upd g_1729 (57 : Int32).toNatClampNeg (x_1743 : Int32) := ⟨_, rfl⟩
  rw [← eg_1744] at hP hD
  have s_1746 : sg 58 376 0 0 g_1744 := sg_out (sg_w s_1731 (by decide) (by decide) (by decide) (by decide)) eg_1744 (⟨by decide, by decide⟩ : rg 57 57 (57 : Int32)) (by decide) (by decide)
  have s_1747 : sg 0 1 0 10 g_1744 := sg_out s_1732 eg_1744 (⟨by decide, by decide⟩ : rg 57 57 (57 : Int32)) (by decide) (by decide)
  have s_1748 : sg 1 2 0 4 g_1744 := sg_out s_1733 eg_1744 (⟨by decide, by decide⟩ : rg 57 57 (57 : Int32)) (by decide) (by decide)
  have s_1749 : sg 2 3 0 5 g_1744 := sg_out s_1734 eg_1744 (⟨by decide, by decide⟩ : rg 57 57 (57 : Int32)) (by decide) (by decide)
  have s_1750 : sg 3 4 3 3 g_1744 := sg_out s_1735 eg_1744 (⟨by decide, by decide⟩ : rg 57 57 (57 : Int32)) (by decide) (by decide)
  have s_1751 : sg 4 5 1 1 g_1744 := sg_out s_1736 eg_1744 (⟨by decide, by decide⟩ : rg 57 57 (57 : Int32)) (by decide) (by decide)
  have s_1752 : sg 35 36 0 1023 g_1744 := sg_out s_1737 eg_1744 (⟨by decide, by decide⟩ : rg 57 57 (57 : Int32)) (by decide) (by decide)
  have s_1753 : sg 44 45 0 3 g_1744 := sg_out s_1738 eg_1744 (⟨by decide, by decide⟩ : rg 57 57 (57 : Int32)) (by decide) (by decide)
  have s_1754 : sg 45 46 0 3 g_1744 := sg_out s_1739 eg_1744 (⟨by decide, by decide⟩ : rg 57 57 (57 : Int32)) (by decide) (by decide)
  have s_1755 : sg 46 47 0 3 g_1744 := sg_out s_1740 eg_1744 (⟨by decide, by decide⟩ : rg 57 57 (57 : Int32)) (by decide) (by decide)
  have s_1756 : sg 47 48 0 3 g_1744 := sg_out s_1741 eg_1744 (⟨by decide, by decide⟩ : rg 57 57 (57 : Int32)) (by decide) (by decide)
  have s_1757 : sg 48 49 0 3 g_1744 := sg_out s_1742 eg_1744 (⟨by decide, by decide⟩ : rg 57 57 (57 : Int32)) (by decide) (by decide)
  have hP : va_P D vwCl [(aI ca q_1124 940 (fun _ => 0)), (aI ca q_1125 376 g_1744), (aI ca q_1127 752 (fun _ => 0)), (aI ca q_1128 360 (fun _ => 0)), (aI ca q_1129 45 (fun _ => 0)), (aJ ca q_1130 19 (fun _ => 0)), (aJ ca q_1131 19 (fun _ => 0)), (aJ ca q_1132 38 (fun _ => 0)), (aZ ca q_1133 2 (fun _ => 0)), (aI ca q_1135 10 (fun _ => 0)), (aZ ca q_1136 1024 (fun _ => 0)), (aI ca q_1137 64 (fun _ => 0)), (aI ca q_1138 80 (fun _ => 0)), (aI ca q_1139 4 (fun _ => 0)), (aI ca q_1140 240 (fun _ => 0)), (h0, .inr (11, [.int 0, .ref q_1124, .int 0, .int 0, .int 0, .int 0, .int 0, .int 0, .int 0, .int 0, .int 0, .int 0, .long 0, .int 0, .ref q_1125, .ref q_1126, .ref q_1127, .ref q_1128, .ref q_1129, .ref q_1130, .ref q_1131, .ref q_1132, .ref q_1133, .ref q_1134, .int 0, .int 0, .int 0, .int (-1), .int (-1), .int (-1), .ref q_1135, .int (-1), .int (-1), .ref q_1136, .int (-1), .int (-1), .ref q_1137, .int 0, .int 0, .ref q_1138, .ref q_1139, .int 0, .int 0, .ref q_1140, .int 0, .int 0, .int 0, .int 0])), (aI ca q_1126 89 u_1143), (aZ ca q_1134 2 u_1144)] H := hP
  have hD : va_D A [(aI ca q_1124 940 (fun _ => 0)), (aI ca q_1125 376 g_1744), (aI ca q_1127 752 (fun _ => 0)), (aI ca q_1128 360 (fun _ => 0)), (aI ca q_1129 45 (fun _ => 0)), (aJ ca q_1130 19 (fun _ => 0)), (aJ ca q_1131 19 (fun _ => 0)), (aJ ca q_1132 38 (fun _ => 0)), (aZ ca q_1133 2 (fun _ => 0)), (aI ca q_1135 10 (fun _ => 0)), (aZ ca q_1136 1024 (fun _ => 0)), (aI ca q_1137 64 (fun _ => 0)), (aI ca q_1138 80 (fun _ => 0)), (aI ca q_1139 4 (fun _ => 0)), (aI ca q_1140 240 (fun _ => 0)), (h0, .inr (11, [.int 0, .ref q_1124, .int 0, .int 0, .int 0, .int 0, .int 0, .int 0, .int 0, .int 0, .int 0, .int 0, .long 0, .int 0, .ref q_1125, .ref q_1126, .ref q_1127, .ref q_1128, .ref q_1129, .ref q_1130, .ref q_1131, .ref q_1132, .ref q_1133, .ref q_1134, .int 0, .int 0, .int 0, .int (-1), .int (-1), .int (-1), .ref q_1135, .int (-1), .int (-1), .ref q_1136, .int (-1), .int (-1), .ref q_1137, .int 0, .int 0, .ref q_1138, .ref q_1139, .int 0, .int 0, .ref q_1140, .int 0, .int 0, .int 0, .int 0])), (aI ca q_1126 89 u_1143), (aZ ca q_1134 2 u_1144)] := hD
  refine lv_iinc (v := 58) (lv' := [(1, .int 58), (0, .ref h0)]) hx hb dX12_init_202 hl (k := 0) rfl (by decide) (by decide) rfl (fun ls hl => ?_)
  refine lv_goto (tgt := 184) hx hb dX12_init_205 (by decide) ?_
  clear s_1731 s_1732 s_1733 s_1734 s_1735 s_1736 s_1737 s_1738 s_1739 s_1740 s_1741 s_1742 ex_1743 eg_1744
  refine lv_iload_n hx hb dX12_init_184 rfl (lv_at hl 0 rfl) ?_
  refine lv_bipush (v := 89) hx hb dX12_init_185 (by decide) ?_
  refine lv_icmp_ge (tgt := 208) hx hb dX12_init_187 (by decide) (fun c => absurd c (by decide)) (fun _ => ?_)
  refine lv_aload_n hx hb dX12_init_190 rfl (lv_at hl 1 rfl) ?_
  refine va_get (D := D) (ci := 11) (v := .ref q_1125) (C := RX12) (T := TX12) (N := 48) hx hb hts k6 hown hK.1 hP 15 rfl rfl 14 (by decide) k7 (fun _ h9 => h9) rfl dX12_init_191 ?_
  refine lv_iload_n hx hb dX12_init_194 rfl (lv_at hl 0 rfl) ?_
  refine lv_aload_n hx hb dX12_init_195 rfl (lv_at hl 1 rfl) ?_
  refine va_get (D := D) (ci := 11) (v := .ref q_1126) (C := RX12) (T := TX12) (N := 48) hx hb hts k6 hown hK.1 hP 15 rfl rfl 15 (by decide) k8 (fun _ h9 => h9) rfl dX12_init_196 ?_
  refine lv_iload_n hx hb dX12_init_199 rfl (lv_at hl 0 rfl) ?_
  refine va_iald hx hb hK.1 hP 16 0 rfl rfl (rg_in (⟨by decide, by decide⟩ : rg 58 58 (58 : Int32)) (by decide) (by decide)) dX12_init_200 ?_
  refine lv_topi (fun x_1758 ex_1758 => ?_)
  refine va_iast hx hb hK.1 hP hD hS 1 0 rfl rfl (rg_in (⟨by decide, by decide⟩ : rg 58 58 (58 : Int32)) (by decide) (by decide)) dX12_init_201 (fun H locs hP hD hS => ?_)
  obtain ⟨g_1759, eg_1759⟩ : ∃ y : Nat → Int32, y = upd g_1744 (58 : Int32).toNatClampNeg (x_1758 : Int32) := ⟨_, rfl⟩
  rw [← eg_1759] at hP hD
  have s_1761 : sg 59 376 0 0 g_1759 := sg_out (sg_w s_1746 (by decide) (by decide) (by decide) (by decide)) eg_1759 (⟨by decide, by decide⟩ : rg 58 58 (58 : Int32)) (by decide) (by decide)
  have s_1762 : sg 0 1 0 10 g_1759 := sg_out s_1747 eg_1759 (⟨by decide, by decide⟩ : rg 58 58 (58 : Int32)) (by decide) (by decide)
  have s_1763 : sg 1 2 0 4 g_1759 := sg_out s_1748 eg_1759 (⟨by decide, by decide⟩ : rg 58 58 (58 : Int32)) (by decide) (by decide)
  have s_1764 : sg 2 3 0 5 g_1759 := sg_out s_1749 eg_1759 (⟨by decide, by decide⟩ : rg 58 58 (58 : Int32)) (by decide) (by decide)
  have s_1765 : sg 3 4 3 3 g_1759 := sg_out s_1750 eg_1759 (⟨by decide, by decide⟩ : rg 58 58 (58 : Int32)) (by decide) (by decide)
  have s_1766 : sg 4 5 1 1 g_1759 := sg_out s_1751 eg_1759 (⟨by decide, by decide⟩ : rg 58 58 (58 : Int32)) (by decide) (by decide)
  have s_1767 : sg 35 36 0 1023 g_1759 := sg_out s_1752 eg_1759 (⟨by decide, by decide⟩ : rg 58 58 (58 : Int32)) (by decide) (by decide)
  have s_1768 : sg 44 45 0 3 g_1759 := sg_out s_1753 eg_1759 (⟨by decide, by decide⟩ : rg 58 58 (58 : Int32)) (by decide) (by decide)
  have s_1769 : sg 45 46 0 3 g_1759 := sg_out s_1754 eg_1759 (⟨by decide, by decide⟩ : rg 58 58 (58 : Int32)) (by decide) (by decide)
  have s_1770 : sg 46 47 0 3 g_1759 := sg_out s_1755 eg_1759 (⟨by decide, by decide⟩ : rg 58 58 (58 : Int32)) (by decide) (by decide)
  have s_1771 : sg 47 48 0 3 g_1759 := sg_out s_1756 eg_1759 (⟨by decide, by decide⟩ : rg 58 58 (58 : Int32)) (by decide) (by decide)
  have s_1772 : sg 48 49 0 3 g_1759 := sg_out s_1757 eg_1759 (⟨by decide, by decide⟩ : rg 58 58 (58 : Int32)) (by decide) (by decide)
  have hP : va_P D vwCl [(aI ca q_1124 940 (fun _ => 0)), (aI ca q_1125 376 g_1759), (aI ca q_1127 752 (fun _ => 0)), (aI ca q_1128 360 (fun _ => 0)), (aI ca q_1129 45 (fun _ => 0)), (aJ ca q_1130 19 (fun _ => 0)), (aJ ca q_1131 19 (fun _ => 0)), (aJ ca q_1132 38 (fun _ => 0)), (aZ ca q_1133 2 (fun _ => 0)), (aI ca q_1135 10 (fun _ => 0)), (aZ ca q_1136 1024 (fun _ => 0)), (aI ca q_1137 64 (fun _ => 0)), (aI ca q_1138 80 (fun _ => 0)), (aI ca q_1139 4 (fun _ => 0)), (aI ca q_1140 240 (fun _ => 0)), (h0, .inr (11, [.int 0, .ref q_1124, .int 0, .int 0, .int 0, .int 0, .int 0, .int 0, .int 0, .int 0, .int 0, .int 0, .long 0, .int 0, .ref q_1125, .ref q_1126, .ref q_1127, .ref q_1128, .ref q_1129, .ref q_1130, .ref q_1131, .ref q_1132, .ref q_1133, .ref q_1134, .int 0, .int 0, .int 0, .int (-1), .int (-1), .int (-1), .ref q_1135, .int (-1), .int (-1), .ref q_1136, .int (-1), .int (-1), .ref q_1137, .int 0, .int 0, .ref q_1138, .ref q_1139, .int 0, .int 0, .ref q_1140, .int 0, .int 0, .int 0, .int 0])), (aI ca q_1126 89 u_1143), (aZ ca q_1134 2 u_1144)] H := hP
  have hD : va_D A [(aI ca q_1124 940 (fun _ => 0)), (aI ca q_1125 376 g_1759), (aI ca q_1127 752 (fun _ => 0)), (aI ca q_1128 360 (fun _ => 0)), (aI ca q_1129 45 (fun _ => 0)), (aJ ca q_1130 19 (fun _ => 0)), (aJ ca q_1131 19 (fun _ => 0)), (aJ ca q_1132 38 (fun _ => 0)), (aZ ca q_1133 2 (fun _ => 0)), (aI ca q_1135 10 (fun _ => 0)), (aZ ca q_1136 1024 (fun _ => 0)), (aI ca q_1137 64 (fun _ => 0)), (aI ca q_1138 80 (fun _ => 0)), (aI ca q_1139 4 (fun _ => 0)), (aI ca q_1140 240 (fun _ => 0)), (h0, .inr (11, [.int 0, .ref q_1124, .int 0, .int 0, .int 0, .int 0, .int 0, .int 0, .int 0, .int 0, .int 0, .int 0, .long 0, .int 0, .ref q_1125, .ref q_1126, .ref q_1127, .ref q_1128, .ref q_1129, .ref q_1130, .ref q_1131, .ref q_1132, .ref q_1133, .ref q_1134, .int 0, .int 0, .int 0, .int (-1), .int (-1), .int (-1), .ref q_1135, .int (-1), .int (-1), .ref q_1136, .int (-1), .int (-1), .ref q_1137, .int 0, .int 0, .ref q_1138, .ref q_1139, .int 0, .int 0, .ref q_1140, .int 0, .int 0, .int 0, .int 0])), (aI ca q_1126 89 u_1143), (aZ ca q_1134 2 u_1144)] := hD
  refine lv_iinc (v := 59) (lv' := [(1, .int 59), (0, .ref h0)]) hx hb dX12_init_202 hl (k := 0) rfl (by decide) (by decide) rfl (fun ls hl => ?_)
  refine lv_goto (tgt := 184) hx hb dX12_init_205 (by decide) ?_
  clear s_1746 s_1747 s_1748 s_1749 s_1750 s_1751 s_1752 s_1753 s_1754 s_1755 s_1756 s_1757 ex_1758 eg_1759
  refine lv_iload_n hx hb dX12_init_184 rfl (lv_at hl 0 rfl) ?_
  refine lv_bipush (v := 89) hx hb dX12_init_185 (by decide) ?_
  refine lv_icmp_ge (tgt := 208) hx hb dX12_init_187 (by decide) (fun c => absurd c (by decide)) (fun _ => ?_)
  refine lv_aload_n hx hb dX12_init_190 rfl (lv_at hl 1 rfl) ?_
  refine va_get (D := D) (ci := 11) (v := .ref q_1125) (C := RX12) (T := TX12) (N := 48) hx hb hts k6 hown hK.1 hP 15 rfl rfl 14 (by decide) k7 (fun _ h9 => h9) rfl dX12_init_191 ?_
  refine lv_iload_n hx hb dX12_init_194 rfl (lv_at hl 0 rfl) ?_
  refine lv_aload_n hx hb dX12_init_195 rfl (lv_at hl 1 rfl) ?_
  refine va_get (D := D) (ci := 11) (v := .ref q_1126) (C := RX12) (T := TX12) (N := 48) hx hb hts k6 hown hK.1 hP 15 rfl rfl 15 (by decide) k8 (fun _ h9 => h9) rfl dX12_init_196 ?_
  refine lv_iload_n hx hb dX12_init_199 rfl (lv_at hl 0 rfl) ?_
  refine va_iald hx hb hK.1 hP 16 0 rfl rfl (rg_in (⟨by decide, by decide⟩ : rg 59 59 (59 : Int32)) (by decide) (by decide)) dX12_init_200 ?_
  refine lv_topi (fun x_1773 ex_1773 => ?_)
  refine va_iast hx hb hK.1 hP hD hS 1 0 rfl rfl (rg_in (⟨by decide, by decide⟩ : rg 59 59 (59 : Int32)) (by decide) (by decide)) dX12_init_201 (fun H locs hP hD hS => ?_)
  obtain ⟨g_1774, eg_1774⟩ : ∃ y : Nat → Int32, y = upd g_1759 (59 : Int32).toNatClampNeg (x_1773 : Int32) := ⟨_, rfl⟩
  rw [← eg_1774] at hP hD
  have s_1776 : sg 60 376 0 0 g_1774 := sg_out (sg_w s_1761 (by decide) (by decide) (by decide) (by decide)) eg_1774 (⟨by decide, by decide⟩ : rg 59 59 (59 : Int32)) (by decide) (by decide)
  have s_1777 : sg 0 1 0 10 g_1774 := sg_out s_1762 eg_1774 (⟨by decide, by decide⟩ : rg 59 59 (59 : Int32)) (by decide) (by decide)
  have s_1778 : sg 1 2 0 4 g_1774 := sg_out s_1763 eg_1774 (⟨by decide, by decide⟩ : rg 59 59 (59 : Int32)) (by decide) (by decide)
  have s_1779 : sg 2 3 0 5 g_1774 := sg_out s_1764 eg_1774 (⟨by decide, by decide⟩ : rg 59 59 (59 : Int32)) (by decide) (by decide)
  have s_1780 : sg 3 4 3 3 g_1774 := sg_out s_1765 eg_1774 (⟨by decide, by decide⟩ : rg 59 59 (59 : Int32)) (by decide) (by decide)
  have s_1781 : sg 4 5 1 1 g_1774 := sg_out s_1766 eg_1774 (⟨by decide, by decide⟩ : rg 59 59 (59 : Int32)) (by decide) (by decide)
  have s_1782 : sg 35 36 0 1023 g_1774 := sg_out s_1767 eg_1774 (⟨by decide, by decide⟩ : rg 59 59 (59 : Int32)) (by decide) (by decide)
  have s_1783 : sg 44 45 0 3 g_1774 := sg_out s_1768 eg_1774 (⟨by decide, by decide⟩ : rg 59 59 (59 : Int32)) (by decide) (by decide)
  have s_1784 : sg 45 46 0 3 g_1774 := sg_out s_1769 eg_1774 (⟨by decide, by decide⟩ : rg 59 59 (59 : Int32)) (by decide) (by decide)
  have s_1785 : sg 46 47 0 3 g_1774 := sg_out s_1770 eg_1774 (⟨by decide, by decide⟩ : rg 59 59 (59 : Int32)) (by decide) (by decide)
  have s_1786 : sg 47 48 0 3 g_1774 := sg_out s_1771 eg_1774 (⟨by decide, by decide⟩ : rg 59 59 (59 : Int32)) (by decide) (by decide)
  have s_1787 : sg 48 49 0 3 g_1774 := sg_out s_1772 eg_1774 (⟨by decide, by decide⟩ : rg 59 59 (59 : Int32)) (by decide) (by decide)
  have hP : va_P D vwCl [(aI ca q_1124 940 (fun _ => 0)), (aI ca q_1125 376 g_1774), (aI ca q_1127 752 (fun _ => 0)), (aI ca q_1128 360 (fun _ => 0)), (aI ca q_1129 45 (fun _ => 0)), (aJ ca q_1130 19 (fun _ => 0)), (aJ ca q_1131 19 (fun _ => 0)), (aJ ca q_1132 38 (fun _ => 0)), (aZ ca q_1133 2 (fun _ => 0)), (aI ca q_1135 10 (fun _ => 0)), (aZ ca q_1136 1024 (fun _ => 0)), (aI ca q_1137 64 (fun _ => 0)), (aI ca q_1138 80 (fun _ => 0)), (aI ca q_1139 4 (fun _ => 0)), (aI ca q_1140 240 (fun _ => 0)), (h0, .inr (11, [.int 0, .ref q_1124, .int 0, .int 0, .int 0, .int 0, .int 0, .int 0, .int 0, .int 0, .int 0, .int 0, .long 0, .int 0, .ref q_1125, .ref q_1126, .ref q_1127, .ref q_1128, .ref q_1129, .ref q_1130, .ref q_1131, .ref q_1132, .ref q_1133, .ref q_1134, .int 0, .int 0, .int 0, .int (-1), .int (-1), .int (-1), .ref q_1135, .int (-1), .int (-1), .ref q_1136, .int (-1), .int (-1), .ref q_1137, .int 0, .int 0, .ref q_1138, .ref q_1139, .int 0, .int 0, .ref q_1140, .int 0, .int 0, .int 0, .int 0])), (aI ca q_1126 89 u_1143), (aZ ca q_1134 2 u_1144)] H := hP
  have hD : va_D A [(aI ca q_1124 940 (fun _ => 0)), (aI ca q_1125 376 g_1774), (aI ca q_1127 752 (fun _ => 0)), (aI ca q_1128 360 (fun _ => 0)), (aI ca q_1129 45 (fun _ => 0)), (aJ ca q_1130 19 (fun _ => 0)), (aJ ca q_1131 19 (fun _ => 0)), (aJ ca q_1132 38 (fun _ => 0)), (aZ ca q_1133 2 (fun _ => 0)), (aI ca q_1135 10 (fun _ => 0)), (aZ ca q_1136 1024 (fun _ => 0)), (aI ca q_1137 64 (fun _ => 0)), (aI ca q_1138 80 (fun _ => 0)), (aI ca q_1139 4 (fun _ => 0)), (aI ca q_1140 240 (fun _ => 0)), (h0, .inr (11, [.int 0, .ref q_1124, .int 0, .int 0, .int 0, .int 0, .int 0, .int 0, .int 0, .int 0, .int 0, .int 0, .long 0, .int 0, .ref q_1125, .ref q_1126, .ref q_1127, .ref q_1128, .ref q_1129, .ref q_1130, .ref q_1131, .ref q_1132, .ref q_1133, .ref q_1134, .int 0, .int 0, .int 0, .int (-1), .int (-1), .int (-1), .ref q_1135, .int (-1), .int (-1), .ref q_1136, .int (-1), .int (-1), .ref q_1137, .int 0, .int 0, .ref q_1138, .ref q_1139, .int 0, .int 0, .ref q_1140, .int 0, .int 0, .int 0, .int 0])), (aI ca q_1126 89 u_1143), (aZ ca q_1134 2 u_1144)] := hD
  refine lv_iinc (v := 60) (lv' := [(1, .int 60), (0, .ref h0)]) hx hb dX12_init_202 hl (k := 0) rfl (by decide) (by decide) rfl (fun ls hl => ?_)
  refine lv_goto (tgt := 184) hx hb dX12_init_205 (by decide) ?_
  clear s_1761 s_1762 s_1763 s_1764 s_1765 s_1766 s_1767 s_1768 s_1769 s_1770 s_1771 s_1772 ex_1773 eg_1774
  refine lv_iload_n hx hb dX12_init_184 rfl (lv_at hl 0 rfl) ?_
  refine lv_bipush (v := 89) hx hb dX12_init_185 (by decide) ?_
  refine lv_icmp_ge (tgt := 208) hx hb dX12_init_187 (by decide) (fun c => absurd c (by decide)) (fun _ => ?_)
  refine lv_aload_n hx hb dX12_init_190 rfl (lv_at hl 1 rfl) ?_
  refine va_get (D := D) (ci := 11) (v := .ref q_1125) (C := RX12) (T := TX12) (N := 48) hx hb hts k6 hown hK.1 hP 15 rfl rfl 14 (by decide) k7 (fun _ h9 => h9) rfl dX12_init_191 ?_
  refine lv_iload_n hx hb dX12_init_194 rfl (lv_at hl 0 rfl) ?_
  refine lv_aload_n hx hb dX12_init_195 rfl (lv_at hl 1 rfl) ?_
  refine va_get (D := D) (ci := 11) (v := .ref q_1126) (C := RX12) (T := TX12) (N := 48) hx hb hts k6 hown hK.1 hP 15 rfl rfl 15 (by decide) k8 (fun _ h9 => h9) rfl dX12_init_196 ?_
  refine lv_iload_n hx hb dX12_init_199 rfl (lv_at hl 0 rfl) ?_
  refine va_iald hx hb hK.1 hP 16 0 rfl rfl (rg_in (⟨by decide, by decide⟩ : rg 60 60 (60 : Int32)) (by decide) (by decide)) dX12_init_200 ?_
  refine lv_topi (fun x_1788 ex_1788 => ?_)
  refine va_iast hx hb hK.1 hP hD hS 1 0 rfl rfl (rg_in (⟨by decide, by decide⟩ : rg 60 60 (60 : Int32)) (by decide) (by decide)) dX12_init_201 (fun H locs hP hD hS => ?_)
  obtain ⟨g_1789, eg_1789⟩ : ∃ y : Nat → Int32, y = upd g_1774 (60 : Int32).toNatClampNeg (x_1788 : Int32) := ⟨_, rfl⟩
  rw [← eg_1789] at hP hD
  have s_1791 : sg 61 376 0 0 g_1789 := sg_out (sg_w s_1776 (by decide) (by decide) (by decide) (by decide)) eg_1789 (⟨by decide, by decide⟩ : rg 60 60 (60 : Int32)) (by decide) (by decide)
  have s_1792 : sg 0 1 0 10 g_1789 := sg_out s_1777 eg_1789 (⟨by decide, by decide⟩ : rg 60 60 (60 : Int32)) (by decide) (by decide)
  have s_1793 : sg 1 2 0 4 g_1789 := sg_out s_1778 eg_1789 (⟨by decide, by decide⟩ : rg 60 60 (60 : Int32)) (by decide) (by decide)
  have s_1794 : sg 2 3 0 5 g_1789 := sg_out s_1779 eg_1789 (⟨by decide, by decide⟩ : rg 60 60 (60 : Int32)) (by decide) (by decide)
  have s_1795 : sg 3 4 3 3 g_1789 := sg_out s_1780 eg_1789 (⟨by decide, by decide⟩ : rg 60 60 (60 : Int32)) (by decide) (by decide)
  have s_1796 : sg 4 5 1 1 g_1789 := sg_out s_1781 eg_1789 (⟨by decide, by decide⟩ : rg 60 60 (60 : Int32)) (by decide) (by decide)
  have s_1797 : sg 35 36 0 1023 g_1789 := sg_out s_1782 eg_1789 (⟨by decide, by decide⟩ : rg 60 60 (60 : Int32)) (by decide) (by decide)
  have s_1798 : sg 44 45 0 3 g_1789 := sg_out s_1783 eg_1789 (⟨by decide, by decide⟩ : rg 60 60 (60 : Int32)) (by decide) (by decide)
  have s_1799 : sg 45 46 0 3 g_1789 := sg_out s_1784 eg_1789 (⟨by decide, by decide⟩ : rg 60 60 (60 : Int32)) (by decide) (by decide)
  have s_1800 : sg 46 47 0 3 g_1789 := sg_out s_1785 eg_1789 (⟨by decide, by decide⟩ : rg 60 60 (60 : Int32)) (by decide) (by decide)
  have s_1801 : sg 47 48 0 3 g_1789 := sg_out s_1786 eg_1789 (⟨by decide, by decide⟩ : rg 60 60 (60 : Int32)) (by decide) (by decide)
  have s_1802 : sg 48 49 0 3 g_1789 := sg_out s_1787 eg_1789 (⟨by decide, by decide⟩ : rg 60 60 (60 : Int32)) (by decide) (by decide)
  have hP : va_P D vwCl [(aI ca q_1124 940 (fun _ => 0)), (aI ca q_1125 376 g_1789), (aI ca q_1127 752 (fun _ => 0)), (aI ca q_1128 360 (fun _ => 0)), (aI ca q_1129 45 (fun _ => 0)), (aJ ca q_1130 19 (fun _ => 0)), (aJ ca q_1131 19 (fun _ => 0)), (aJ ca q_1132 38 (fun _ => 0)), (aZ ca q_1133 2 (fun _ => 0)), (aI ca q_1135 10 (fun _ => 0)), (aZ ca q_1136 1024 (fun _ => 0)), (aI ca q_1137 64 (fun _ => 0)), (aI ca q_1138 80 (fun _ => 0)), (aI ca q_1139 4 (fun _ => 0)), (aI ca q_1140 240 (fun _ => 0)), (h0, .inr (11, [.int 0, .ref q_1124, .int 0, .int 0, .int 0, .int 0, .int 0, .int 0, .int 0, .int 0, .int 0, .int 0, .long 0, .int 0, .ref q_1125, .ref q_1126, .ref q_1127, .ref q_1128, .ref q_1129, .ref q_1130, .ref q_1131, .ref q_1132, .ref q_1133, .ref q_1134, .int 0, .int 0, .int 0, .int (-1), .int (-1), .int (-1), .ref q_1135, .int (-1), .int (-1), .ref q_1136, .int (-1), .int (-1), .ref q_1137, .int 0, .int 0, .ref q_1138, .ref q_1139, .int 0, .int 0, .ref q_1140, .int 0, .int 0, .int 0, .int 0])), (aI ca q_1126 89 u_1143), (aZ ca q_1134 2 u_1144)] H := hP
  have hD : va_D A [(aI ca q_1124 940 (fun _ => 0)), (aI ca q_1125 376 g_1789), (aI ca q_1127 752 (fun _ => 0)), (aI ca q_1128 360 (fun _ => 0)), (aI ca q_1129 45 (fun _ => 0)), (aJ ca q_1130 19 (fun _ => 0)), (aJ ca q_1131 19 (fun _ => 0)), (aJ ca q_1132 38 (fun _ => 0)), (aZ ca q_1133 2 (fun _ => 0)), (aI ca q_1135 10 (fun _ => 0)), (aZ ca q_1136 1024 (fun _ => 0)), (aI ca q_1137 64 (fun _ => 0)), (aI ca q_1138 80 (fun _ => 0)), (aI ca q_1139 4 (fun _ => 0)), (aI ca q_1140 240 (fun _ => 0)), (h0, .inr (11, [.int 0, .ref q_1124, .int 0, .int 0, .int 0, .int 0, .int 0, .int 0, .int 0, .int 0, .int 0, .int 0, .long 0, .int 0, .ref q_1125, .ref q_1126, .ref q_1127, .ref q_1128, .ref q_1129, .ref q_1130, .ref q_1131, .ref q_1132, .ref q_1133, .ref q_1134, .int 0, .int 0, .int 0, .int (-1), .int (-1), .int (-1), .ref q_1135, .int (-1), .int (-1), .ref q_1136, .int (-1), .int (-1), .ref q_1137, .int 0, .int 0, .ref q_1138, .ref q_1139, .int 0, .int 0, .ref q_1140, .int 0, .int 0, .int 0, .int 0])), (aI ca q_1126 89 u_1143), (aZ ca q_1134 2 u_1144)] := hD
  refine lv_iinc (v := 61) (lv' := [(1, .int 61), (0, .ref h0)]) hx hb dX12_init_202 hl (k := 0) rfl (by decide) (by decide) rfl (fun ls hl => ?_)
  refine lv_goto (tgt := 184) hx hb dX12_init_205 (by decide) ?_
  clear s_1776 s_1777 s_1778 s_1779 s_1780 s_1781 s_1782 s_1783 s_1784 s_1785 s_1786 s_1787 ex_1788 eg_1789
  refine lv_iload_n hx hb dX12_init_184 rfl (lv_at hl 0 rfl) ?_
  refine lv_bipush (v := 89) hx hb dX12_init_185 (by decide) ?_
  refine lv_icmp_ge (tgt := 208) hx hb dX12_init_187 (by decide) (fun c => absurd c (by decide)) (fun _ => ?_)
  refine lv_aload_n hx hb dX12_init_190 rfl (lv_at hl 1 rfl) ?_
  refine va_get (D := D) (ci := 11) (v := .ref q_1125) (C := RX12) (T := TX12) (N := 48) hx hb hts k6 hown hK.1 hP 15 rfl rfl 14 (by decide) k7 (fun _ h9 => h9) rfl dX12_init_191 ?_
  refine lv_iload_n hx hb dX12_init_194 rfl (lv_at hl 0 rfl) ?_
  refine lv_aload_n hx hb dX12_init_195 rfl (lv_at hl 1 rfl) ?_
  refine va_get (D := D) (ci := 11) (v := .ref q_1126) (C := RX12) (T := TX12) (N := 48) hx hb hts k6 hown hK.1 hP 15 rfl rfl 15 (by decide) k8 (fun _ h9 => h9) rfl dX12_init_196 ?_
  refine lv_iload_n hx hb dX12_init_199 rfl (lv_at hl 0 rfl) ?_
  refine va_iald hx hb hK.1 hP 16 0 rfl rfl (rg_in (⟨by decide, by decide⟩ : rg 61 61 (61 : Int32)) (by decide) (by decide)) dX12_init_200 ?_
  refine lv_topi (fun x_1803 ex_1803 => ?_)
  refine va_iast hx hb hK.1 hP hD hS 1 0 rfl rfl (rg_in (⟨by decide, by decide⟩ : rg 61 61 (61 : Int32)) (by decide) (by decide)) dX12_init_201 (fun H locs hP hD hS => ?_)
  obtain ⟨g_1804, eg_1804⟩ : ∃ y : Nat → Int32, y = upd g_1789 (61 : Int32).toNatClampNeg (x_1803 : Int32) := ⟨_, rfl⟩
  rw [← eg_1804] at hP hD
  have s_1806 : sg 62 376 0 0 g_1804 := sg_out (sg_w s_1791 (by decide) (by decide) (by decide) (by decide)) eg_1804 (⟨by decide, by decide⟩ : rg 61 61 (61 : Int32)) (by decide) (by decide)
  have s_1807 : sg 0 1 0 10 g_1804 := sg_out s_1792 eg_1804 (⟨by decide, by decide⟩ : rg 61 61 (61 : Int32)) (by decide) (by decide)
  have s_1808 : sg 1 2 0 4 g_1804 := sg_out s_1793 eg_1804 (⟨by decide, by decide⟩ : rg 61 61 (61 : Int32)) (by decide) (by decide)
  have s_1809 : sg 2 3 0 5 g_1804 := sg_out s_1794 eg_1804 (⟨by decide, by decide⟩ : rg 61 61 (61 : Int32)) (by decide) (by decide)
  have s_1810 : sg 3 4 3 3 g_1804 := sg_out s_1795 eg_1804 (⟨by decide, by decide⟩ : rg 61 61 (61 : Int32)) (by decide) (by decide)
  have s_1811 : sg 4 5 1 1 g_1804 := sg_out s_1796 eg_1804 (⟨by decide, by decide⟩ : rg 61 61 (61 : Int32)) (by decide) (by decide)
  have s_1812 : sg 35 36 0 1023 g_1804 := sg_out s_1797 eg_1804 (⟨by decide, by decide⟩ : rg 61 61 (61 : Int32)) (by decide) (by decide)
  have s_1813 : sg 44 45 0 3 g_1804 := sg_out s_1798 eg_1804 (⟨by decide, by decide⟩ : rg 61 61 (61 : Int32)) (by decide) (by decide)
  have s_1814 : sg 45 46 0 3 g_1804 := sg_out s_1799 eg_1804 (⟨by decide, by decide⟩ : rg 61 61 (61 : Int32)) (by decide) (by decide)
  have s_1815 : sg 46 47 0 3 g_1804 := sg_out s_1800 eg_1804 (⟨by decide, by decide⟩ : rg 61 61 (61 : Int32)) (by decide) (by decide)
  have s_1816 : sg 47 48 0 3 g_1804 := sg_out s_1801 eg_1804 (⟨by decide, by decide⟩ : rg 61 61 (61 : Int32)) (by decide) (by decide)
  have s_1817 : sg 48 49 0 3 g_1804 := sg_out s_1802 eg_1804 (⟨by decide, by decide⟩ : rg 61 61 (61 : Int32)) (by decide) (by decide)
  have hP : va_P D vwCl [(aI ca q_1124 940 (fun _ => 0)), (aI ca q_1125 376 g_1804), (aI ca q_1127 752 (fun _ => 0)), (aI ca q_1128 360 (fun _ => 0)), (aI ca q_1129 45 (fun _ => 0)), (aJ ca q_1130 19 (fun _ => 0)), (aJ ca q_1131 19 (fun _ => 0)), (aJ ca q_1132 38 (fun _ => 0)), (aZ ca q_1133 2 (fun _ => 0)), (aI ca q_1135 10 (fun _ => 0)), (aZ ca q_1136 1024 (fun _ => 0)), (aI ca q_1137 64 (fun _ => 0)), (aI ca q_1138 80 (fun _ => 0)), (aI ca q_1139 4 (fun _ => 0)), (aI ca q_1140 240 (fun _ => 0)), (h0, .inr (11, [.int 0, .ref q_1124, .int 0, .int 0, .int 0, .int 0, .int 0, .int 0, .int 0, .int 0, .int 0, .int 0, .long 0, .int 0, .ref q_1125, .ref q_1126, .ref q_1127, .ref q_1128, .ref q_1129, .ref q_1130, .ref q_1131, .ref q_1132, .ref q_1133, .ref q_1134, .int 0, .int 0, .int 0, .int (-1), .int (-1), .int (-1), .ref q_1135, .int (-1), .int (-1), .ref q_1136, .int (-1), .int (-1), .ref q_1137, .int 0, .int 0, .ref q_1138, .ref q_1139, .int 0, .int 0, .ref q_1140, .int 0, .int 0, .int 0, .int 0])), (aI ca q_1126 89 u_1143), (aZ ca q_1134 2 u_1144)] H := hP
  have hD : va_D A [(aI ca q_1124 940 (fun _ => 0)), (aI ca q_1125 376 g_1804), (aI ca q_1127 752 (fun _ => 0)), (aI ca q_1128 360 (fun _ => 0)), (aI ca q_1129 45 (fun _ => 0)), (aJ ca q_1130 19 (fun _ => 0)), (aJ ca q_1131 19 (fun _ => 0)), (aJ ca q_1132 38 (fun _ => 0)), (aZ ca q_1133 2 (fun _ => 0)), (aI ca q_1135 10 (fun _ => 0)), (aZ ca q_1136 1024 (fun _ => 0)), (aI ca q_1137 64 (fun _ => 0)), (aI ca q_1138 80 (fun _ => 0)), (aI ca q_1139 4 (fun _ => 0)), (aI ca q_1140 240 (fun _ => 0)), (h0, .inr (11, [.int 0, .ref q_1124, .int 0, .int 0, .int 0, .int 0, .int 0, .int 0, .int 0, .int 0, .int 0, .int 0, .long 0, .int 0, .ref q_1125, .ref q_1126, .ref q_1127, .ref q_1128, .ref q_1129, .ref q_1130, .ref q_1131, .ref q_1132, .ref q_1133, .ref q_1134, .int 0, .int 0, .int 0, .int (-1), .int (-1), .int (-1), .ref q_1135, .int (-1), .int (-1), .ref q_1136, .int (-1), .int (-1), .ref q_1137, .int 0, .int 0, .ref q_1138, .ref q_1139, .int 0, .int 0, .ref q_1140, .int 0, .int 0, .int 0, .int 0])), (aI ca q_1126 89 u_1143), (aZ ca q_1134 2 u_1144)] := hD
  refine lv_iinc (v := 62) (lv' := [(1, .int 62), (0, .ref h0)]) hx hb dX12_init_202 hl (k := 0) rfl (by decide) (by decide) rfl (fun ls hl => ?_)
  refine lv_goto (tgt := 184) hx hb dX12_init_205 (by decide) ?_
  clear s_1791 s_1792 s_1793 s_1794 s_1795 s_1796 s_1797 s_1798 s_1799 s_1800 s_1801 s_1802 ex_1803 eg_1804
  refine lv_iload_n hx hb dX12_init_184 rfl (lv_at hl 0 rfl) ?_
  refine lv_bipush (v := 89) hx hb dX12_init_185 (by decide) ?_
  refine lv_icmp_ge (tgt := 208) hx hb dX12_init_187 (by decide) (fun c => absurd c (by decide)) (fun _ => ?_)
  refine lv_aload_n hx hb dX12_init_190 rfl (lv_at hl 1 rfl) ?_
  refine va_get (D := D) (ci := 11) (v := .ref q_1125) (C := RX12) (T := TX12) (N := 48) hx hb hts k6 hown hK.1 hP 15 rfl rfl 14 (by decide) k7 (fun _ h9 => h9) rfl dX12_init_191 ?_
  refine lv_iload_n hx hb dX12_init_194 rfl (lv_at hl 0 rfl) ?_
  refine lv_aload_n hx hb dX12_init_195 rfl (lv_at hl 1 rfl) ?_
  refine va_get (D := D) (ci := 11) (v := .ref q_1126) (C := RX12) (T := TX12) (N := 48) hx hb hts k6 hown hK.1 hP 15 rfl rfl 15 (by decide) k8 (fun _ h9 => h9) rfl dX12_init_196 ?_
  refine lv_iload_n hx hb dX12_init_199 rfl (lv_at hl 0 rfl) ?_
  refine va_iald hx hb hK.1 hP 16 0 rfl rfl (rg_in (⟨by decide, by decide⟩ : rg 62 62 (62 : Int32)) (by decide) (by decide)) dX12_init_200 ?_
  refine lv_topi (fun x_1818 ex_1818 => ?_)
  refine va_iast hx hb hK.1 hP hD hS 1 0 rfl rfl (rg_in (⟨by decide, by decide⟩ : rg 62 62 (62 : Int32)) (by decide) (by decide)) dX12_init_201 (fun H locs hP hD hS => ?_)
  obtain ⟨g_1819, eg_1819⟩ : ∃ y : Nat → Int32, y = upd g_1804 (62 : Int32).toNatClampNeg (x_1818 : Int32) := ⟨_, rfl⟩
  rw [← eg_1819] at hP hD
  have s_1821 : sg 63 376 0 0 g_1819 := sg_out (sg_w s_1806 (by decide) (by decide) (by decide) (by decide)) eg_1819 (⟨by decide, by decide⟩ : rg 62 62 (62 : Int32)) (by decide) (by decide)
  have s_1822 : sg 0 1 0 10 g_1819 := sg_out s_1807 eg_1819 (⟨by decide, by decide⟩ : rg 62 62 (62 : Int32)) (by decide) (by decide)
  have s_1823 : sg 1 2 0 4 g_1819 := sg_out s_1808 eg_1819 (⟨by decide, by decide⟩ : rg 62 62 (62 : Int32)) (by decide) (by decide)
  have s_1824 : sg 2 3 0 5 g_1819 := sg_out s_1809 eg_1819 (⟨by decide, by decide⟩ : rg 62 62 (62 : Int32)) (by decide) (by decide)
  have s_1825 : sg 3 4 3 3 g_1819 := sg_out s_1810 eg_1819 (⟨by decide, by decide⟩ : rg 62 62 (62 : Int32)) (by decide) (by decide)
  have s_1826 : sg 4 5 1 1 g_1819 := sg_out s_1811 eg_1819 (⟨by decide, by decide⟩ : rg 62 62 (62 : Int32)) (by decide) (by decide)
  have s_1827 : sg 35 36 0 1023 g_1819 := sg_out s_1812 eg_1819 (⟨by decide, by decide⟩ : rg 62 62 (62 : Int32)) (by decide) (by decide)
  have s_1828 : sg 44 45 0 3 g_1819 := sg_out s_1813 eg_1819 (⟨by decide, by decide⟩ : rg 62 62 (62 : Int32)) (by decide) (by decide)
  have s_1829 : sg 45 46 0 3 g_1819 := sg_out s_1814 eg_1819 (⟨by decide, by decide⟩ : rg 62 62 (62 : Int32)) (by decide) (by decide)
  have s_1830 : sg 46 47 0 3 g_1819 := sg_out s_1815 eg_1819 (⟨by decide, by decide⟩ : rg 62 62 (62 : Int32)) (by decide) (by decide)
  have s_1831 : sg 47 48 0 3 g_1819 := sg_out s_1816 eg_1819 (⟨by decide, by decide⟩ : rg 62 62 (62 : Int32)) (by decide) (by decide)
  have s_1832 : sg 48 49 0 3 g_1819 := sg_out s_1817 eg_1819 (⟨by decide, by decide⟩ : rg 62 62 (62 : Int32)) (by decide) (by decide)
  have hP : va_P D vwCl [(aI ca q_1124 940 (fun _ => 0)), (aI ca q_1125 376 g_1819), (aI ca q_1127 752 (fun _ => 0)), (aI ca q_1128 360 (fun _ => 0)), (aI ca q_1129 45 (fun _ => 0)), (aJ ca q_1130 19 (fun _ => 0)), (aJ ca q_1131 19 (fun _ => 0)), (aJ ca q_1132 38 (fun _ => 0)), (aZ ca q_1133 2 (fun _ => 0)), (aI ca q_1135 10 (fun _ => 0)), (aZ ca q_1136 1024 (fun _ => 0)), (aI ca q_1137 64 (fun _ => 0)), (aI ca q_1138 80 (fun _ => 0)), (aI ca q_1139 4 (fun _ => 0)), (aI ca q_1140 240 (fun _ => 0)), (h0, .inr (11, [.int 0, .ref q_1124, .int 0, .int 0, .int 0, .int 0, .int 0, .int 0, .int 0, .int 0, .int 0, .int 0, .long 0, .int 0, .ref q_1125, .ref q_1126, .ref q_1127, .ref q_1128, .ref q_1129, .ref q_1130, .ref q_1131, .ref q_1132, .ref q_1133, .ref q_1134, .int 0, .int 0, .int 0, .int (-1), .int (-1), .int (-1), .ref q_1135, .int (-1), .int (-1), .ref q_1136, .int (-1), .int (-1), .ref q_1137, .int 0, .int 0, .ref q_1138, .ref q_1139, .int 0, .int 0, .ref q_1140, .int 0, .int 0, .int 0, .int 0])), (aI ca q_1126 89 u_1143), (aZ ca q_1134 2 u_1144)] H := hP
  have hD : va_D A [(aI ca q_1124 940 (fun _ => 0)), (aI ca q_1125 376 g_1819), (aI ca q_1127 752 (fun _ => 0)), (aI ca q_1128 360 (fun _ => 0)), (aI ca q_1129 45 (fun _ => 0)), (aJ ca q_1130 19 (fun _ => 0)), (aJ ca q_1131 19 (fun _ => 0)), (aJ ca q_1132 38 (fun _ => 0)), (aZ ca q_1133 2 (fun _ => 0)), (aI ca q_1135 10 (fun _ => 0)), (aZ ca q_1136 1024 (fun _ => 0)), (aI ca q_1137 64 (fun _ => 0)), (aI ca q_1138 80 (fun _ => 0)), (aI ca q_1139 4 (fun _ => 0)), (aI ca q_1140 240 (fun _ => 0)), (h0, .inr (11, [.int 0, .ref q_1124, .int 0, .int 0, .int 0, .int 0, .int 0, .int 0, .int 0, .int 0, .int 0, .int 0, .long 0, .int 0, .ref q_1125, .ref q_1126, .ref q_1127, .ref q_1128, .ref q_1129, .ref q_1130, .ref q_1131, .ref q_1132, .ref q_1133, .ref q_1134, .int 0, .int 0, .int 0, .int (-1), .int (-1), .int (-1), .ref q_1135, .int (-1), .int (-1), .ref q_1136, .int (-1), .int (-1), .ref q_1137, .int 0, .int 0, .ref q_1138, .ref q_1139, .int 0, .int 0, .ref q_1140, .int 0, .int 0, .int 0, .int 0])), (aI ca q_1126 89 u_1143), (aZ ca q_1134 2 u_1144)] := hD
  refine lv_iinc (v := 63) (lv' := [(1, .int 63), (0, .ref h0)]) hx hb dX12_init_202 hl (k := 0) rfl (by decide) (by decide) rfl (fun ls hl => ?_)
  refine lv_goto (tgt := 184) hx hb dX12_init_205 (by decide) ?_
  clear s_1806 s_1807 s_1808 s_1809 s_1810 s_1811 s_1812 s_1813 s_1814 s_1815 s_1816 s_1817 ex_1818 eg_1819
  refine lv_iload_n hx hb dX12_init_184 rfl (lv_at hl 0 rfl) ?_
  refine lv_bipush (v := 89) hx hb dX12_init_185 (by decide) ?_
  refine lv_icmp_ge (tgt := 208) hx hb dX12_init_187 (by decide) (fun c => absurd c (by decide)) (fun _ => ?_)
  refine lv_aload_n hx hb dX12_init_190 rfl (lv_at hl 1 rfl) ?_
  refine va_get (D := D) (ci := 11) (v := .ref q_1125) (C := RX12) (T := TX12) (N := 48) hx hb hts k6 hown hK.1 hP 15 rfl rfl 14 (by decide) k7 (fun _ h9 => h9) rfl dX12_init_191 ?_
  refine lv_iload_n hx hb dX12_init_194 rfl (lv_at hl 0 rfl) ?_
  refine lv_aload_n hx hb dX12_init_195 rfl (lv_at hl 1 rfl) ?_
  refine va_get (D := D) (ci := 11) (v := .ref q_1126) (C := RX12) (T := TX12) (N := 48) hx hb hts k6 hown hK.1 hP 15 rfl rfl 15 (by decide) k8 (fun _ h9 => h9) rfl dX12_init_196 ?_
  refine lv_iload_n hx hb dX12_init_199 rfl (lv_at hl 0 rfl) ?_
  refine va_iald hx hb hK.1 hP 16 0 rfl rfl (rg_in (⟨by decide, by decide⟩ : rg 63 63 (63 : Int32)) (by decide) (by decide)) dX12_init_200 ?_
  refine lv_topi (fun x_1833 ex_1833 => ?_)
  refine va_iast hx hb hK.1 hP hD hS 1 0 rfl rfl (rg_in (⟨by decide, by decide⟩ : rg 63 63 (63 : Int32)) (by decide) (by decide)) dX12_init_201 (fun H locs hP hD hS => ?_)
  obtain ⟨g_1834, eg_1834⟩ : ∃ y : Nat → Int32, y = upd g_1819 (63 : Int32).toNatClampNeg (x_1833 : Int32) := ⟨_, rfl⟩
  rw [← eg_1834] at hP hD
  have s_1836 : sg 64 376 0 0 g_1834 := sg_out (sg_w s_1821 (by decide) (by decide) (by decide) (by decide)) eg_1834 (⟨by decide, by decide⟩ : rg 63 63 (63 : Int32)) (by decide) (by decide)
  have s_1837 : sg 0 1 0 10 g_1834 := sg_out s_1822 eg_1834 (⟨by decide, by decide⟩ : rg 63 63 (63 : Int32)) (by decide) (by decide)
  have s_1838 : sg 1 2 0 4 g_1834 := sg_out s_1823 eg_1834 (⟨by decide, by decide⟩ : rg 63 63 (63 : Int32)) (by decide) (by decide)
  have s_1839 : sg 2 3 0 5 g_1834 := sg_out s_1824 eg_1834 (⟨by decide, by decide⟩ : rg 63 63 (63 : Int32)) (by decide) (by decide)
  have s_1840 : sg 3 4 3 3 g_1834 := sg_out s_1825 eg_1834 (⟨by decide, by decide⟩ : rg 63 63 (63 : Int32)) (by decide) (by decide)
  have s_1841 : sg 4 5 1 1 g_1834 := sg_out s_1826 eg_1834 (⟨by decide, by decide⟩ : rg 63 63 (63 : Int32)) (by decide) (by decide)
  have s_1842 : sg 35 36 0 1023 g_1834 := sg_out s_1827 eg_1834 (⟨by decide, by decide⟩ : rg 63 63 (63 : Int32)) (by decide) (by decide)
  have s_1843 : sg 44 45 0 3 g_1834 := sg_out s_1828 eg_1834 (⟨by decide, by decide⟩ : rg 63 63 (63 : Int32)) (by decide) (by decide)
  have s_1844 : sg 45 46 0 3 g_1834 := sg_out s_1829 eg_1834 (⟨by decide, by decide⟩ : rg 63 63 (63 : Int32)) (by decide) (by decide)
  have s_1845 : sg 46 47 0 3 g_1834 := sg_out s_1830 eg_1834 (⟨by decide, by decide⟩ : rg 63 63 (63 : Int32)) (by decide) (by decide)
  have s_1846 : sg 47 48 0 3 g_1834 := sg_out s_1831 eg_1834 (⟨by decide, by decide⟩ : rg 63 63 (63 : Int32)) (by decide) (by decide)
  have s_1847 : sg 48 49 0 3 g_1834 := sg_out s_1832 eg_1834 (⟨by decide, by decide⟩ : rg 63 63 (63 : Int32)) (by decide) (by decide)
  have hP : va_P D vwCl [(aI ca q_1124 940 (fun _ => 0)), (aI ca q_1125 376 g_1834), (aI ca q_1127 752 (fun _ => 0)), (aI ca q_1128 360 (fun _ => 0)), (aI ca q_1129 45 (fun _ => 0)), (aJ ca q_1130 19 (fun _ => 0)), (aJ ca q_1131 19 (fun _ => 0)), (aJ ca q_1132 38 (fun _ => 0)), (aZ ca q_1133 2 (fun _ => 0)), (aI ca q_1135 10 (fun _ => 0)), (aZ ca q_1136 1024 (fun _ => 0)), (aI ca q_1137 64 (fun _ => 0)), (aI ca q_1138 80 (fun _ => 0)), (aI ca q_1139 4 (fun _ => 0)), (aI ca q_1140 240 (fun _ => 0)), (h0, .inr (11, [.int 0, .ref q_1124, .int 0, .int 0, .int 0, .int 0, .int 0, .int 0, .int 0, .int 0, .int 0, .int 0, .long 0, .int 0, .ref q_1125, .ref q_1126, .ref q_1127, .ref q_1128, .ref q_1129, .ref q_1130, .ref q_1131, .ref q_1132, .ref q_1133, .ref q_1134, .int 0, .int 0, .int 0, .int (-1), .int (-1), .int (-1), .ref q_1135, .int (-1), .int (-1), .ref q_1136, .int (-1), .int (-1), .ref q_1137, .int 0, .int 0, .ref q_1138, .ref q_1139, .int 0, .int 0, .ref q_1140, .int 0, .int 0, .int 0, .int 0])), (aI ca q_1126 89 u_1143), (aZ ca q_1134 2 u_1144)] H := hP
  have hD : va_D A [(aI ca q_1124 940 (fun _ => 0)), (aI ca q_1125 376 g_1834), (aI ca q_1127 752 (fun _ => 0)), (aI ca q_1128 360 (fun _ => 0)), (aI ca q_1129 45 (fun _ => 0)), (aJ ca q_1130 19 (fun _ => 0)), (aJ ca q_1131 19 (fun _ => 0)), (aJ ca q_1132 38 (fun _ => 0)), (aZ ca q_1133 2 (fun _ => 0)), (aI ca q_1135 10 (fun _ => 0)), (aZ ca q_1136 1024 (fun _ => 0)), (aI ca q_1137 64 (fun _ => 0)), (aI ca q_1138 80 (fun _ => 0)), (aI ca q_1139 4 (fun _ => 0)), (aI ca q_1140 240 (fun _ => 0)), (h0, .inr (11, [.int 0, .ref q_1124, .int 0, .int 0, .int 0, .int 0, .int 0, .int 0, .int 0, .int 0, .int 0, .int 0, .long 0, .int 0, .ref q_1125, .ref q_1126, .ref q_1127, .ref q_1128, .ref q_1129, .ref q_1130, .ref q_1131, .ref q_1132, .ref q_1133, .ref q_1134, .int 0, .int 0, .int 0, .int (-1), .int (-1), .int (-1), .ref q_1135, .int (-1), .int (-1), .ref q_1136, .int (-1), .int (-1), .ref q_1137, .int 0, .int 0, .ref q_1138, .ref q_1139, .int 0, .int 0, .ref q_1140, .int 0, .int 0, .int 0, .int 0])), (aI ca q_1126 89 u_1143), (aZ ca q_1134 2 u_1144)] := hD
  refine lv_iinc (v := 64) (lv' := [(1, .int 64), (0, .ref h0)]) hx hb dX12_init_202 hl (k := 0) rfl (by decide) (by decide) rfl (fun ls hl => ?_)
  refine lv_goto (tgt := 184) hx hb dX12_init_205 (by decide) ?_
  clear s_1821 s_1822 s_1823 s_1824 s_1825 s_1826 s_1827 s_1828 s_1829 s_1830 s_1831 s_1832 ex_1833 eg_1834
  refine lv_iload_n hx hb dX12_init_184 rfl (lv_at hl 0 rfl) ?_
  refine lv_bipush (v := 89) hx hb dX12_init_185 (by decide) ?_
  refine lv_icmp_ge (tgt := 208) hx hb dX12_init_187 (by decide) (fun c => absurd c (by decide)) (fun _ => ?_)
  refine lv_aload_n hx hb dX12_init_190 rfl (lv_at hl 1 rfl) ?_
  refine va_get (D := D) (ci := 11) (v := .ref q_1125) (C := RX12) (T := TX12) (N := 48) hx hb hts k6 hown hK.1 hP 15 rfl rfl 14 (by decide) k7 (fun _ h9 => h9) rfl dX12_init_191 ?_
  refine lv_iload_n hx hb dX12_init_194 rfl (lv_at hl 0 rfl) ?_
  refine lv_aload_n hx hb dX12_init_195 rfl (lv_at hl 1 rfl) ?_
  refine va_get (D := D) (ci := 11) (v := .ref q_1126) (C := RX12) (T := TX12) (N := 48) hx hb hts k6 hown hK.1 hP 15 rfl rfl 15 (by decide) k8 (fun _ h9 => h9) rfl dX12_init_196 ?_
  refine lv_iload_n hx hb dX12_init_199 rfl (lv_at hl 0 rfl) ?_
  refine va_iald hx hb hK.1 hP 16 0 rfl rfl (rg_in (⟨by decide, by decide⟩ : rg 64 64 (64 : Int32)) (by decide) (by decide)) dX12_init_200 ?_
  refine lv_topi (fun x_1848 ex_1848 => ?_)
  refine va_iast hx hb hK.1 hP hD hS 1 0 rfl rfl (rg_in (⟨by decide, by decide⟩ : rg 64 64 (64 : Int32)) (by decide) (by decide)) dX12_init_201 (fun H locs hP hD hS => ?_)
  obtain ⟨g_1849, eg_1849⟩ : ∃ y : Nat → Int32, y = upd g_1834 (64 : Int32).toNatClampNeg (x_1848 : Int32) := ⟨_, rfl⟩
  rw [← eg_1849] at hP hD
  have s_1851 : sg 65 376 0 0 g_1849 := sg_out (sg_w s_1836 (by decide) (by decide) (by decide) (by decide)) eg_1849 (⟨by decide, by decide⟩ : rg 64 64 (64 : Int32)) (by decide) (by decide)
  have s_1852 : sg 0 1 0 10 g_1849 := sg_out s_1837 eg_1849 (⟨by decide, by decide⟩ : rg 64 64 (64 : Int32)) (by decide) (by decide)
  have s_1853 : sg 1 2 0 4 g_1849 := sg_out s_1838 eg_1849 (⟨by decide, by decide⟩ : rg 64 64 (64 : Int32)) (by decide) (by decide)
  have s_1854 : sg 2 3 0 5 g_1849 := sg_out s_1839 eg_1849 (⟨by decide, by decide⟩ : rg 64 64 (64 : Int32)) (by decide) (by decide)
  have s_1855 : sg 3 4 3 3 g_1849 := sg_out s_1840 eg_1849 (⟨by decide, by decide⟩ : rg 64 64 (64 : Int32)) (by decide) (by decide)
  have s_1856 : sg 4 5 1 1 g_1849 := sg_out s_1841 eg_1849 (⟨by decide, by decide⟩ : rg 64 64 (64 : Int32)) (by decide) (by decide)
  have s_1857 : sg 35 36 0 1023 g_1849 := sg_out s_1842 eg_1849 (⟨by decide, by decide⟩ : rg 64 64 (64 : Int32)) (by decide) (by decide)
  have s_1858 : sg 44 45 0 3 g_1849 := sg_out s_1843 eg_1849 (⟨by decide, by decide⟩ : rg 64 64 (64 : Int32)) (by decide) (by decide)
  have s_1859 : sg 45 46 0 3 g_1849 := sg_out s_1844 eg_1849 (⟨by decide, by decide⟩ : rg 64 64 (64 : Int32)) (by decide) (by decide)
  have s_1860 : sg 46 47 0 3 g_1849 := sg_out s_1845 eg_1849 (⟨by decide, by decide⟩ : rg 64 64 (64 : Int32)) (by decide) (by decide)
  have s_1861 : sg 47 48 0 3 g_1849 := sg_out s_1846 eg_1849 (⟨by decide, by decide⟩ : rg 64 64 (64 : Int32)) (by decide) (by decide)
  have s_1862 : sg 48 49 0 3 g_1849 := sg_out s_1847 eg_1849 (⟨by decide, by decide⟩ : rg 64 64 (64 : Int32)) (by decide) (by decide)
  have hP : va_P D vwCl [(aI ca q_1124 940 (fun _ => 0)), (aI ca q_1125 376 g_1849), (aI ca q_1127 752 (fun _ => 0)), (aI ca q_1128 360 (fun _ => 0)), (aI ca q_1129 45 (fun _ => 0)), (aJ ca q_1130 19 (fun _ => 0)), (aJ ca q_1131 19 (fun _ => 0)), (aJ ca q_1132 38 (fun _ => 0)), (aZ ca q_1133 2 (fun _ => 0)), (aI ca q_1135 10 (fun _ => 0)), (aZ ca q_1136 1024 (fun _ => 0)), (aI ca q_1137 64 (fun _ => 0)), (aI ca q_1138 80 (fun _ => 0)), (aI ca q_1139 4 (fun _ => 0)), (aI ca q_1140 240 (fun _ => 0)), (h0, .inr (11, [.int 0, .ref q_1124, .int 0, .int 0, .int 0, .int 0, .int 0, .int 0, .int 0, .int 0, .int 0, .int 0, .long 0, .int 0, .ref q_1125, .ref q_1126, .ref q_1127, .ref q_1128, .ref q_1129, .ref q_1130, .ref q_1131, .ref q_1132, .ref q_1133, .ref q_1134, .int 0, .int 0, .int 0, .int (-1), .int (-1), .int (-1), .ref q_1135, .int (-1), .int (-1), .ref q_1136, .int (-1), .int (-1), .ref q_1137, .int 0, .int 0, .ref q_1138, .ref q_1139, .int 0, .int 0, .ref q_1140, .int 0, .int 0, .int 0, .int 0])), (aI ca q_1126 89 u_1143), (aZ ca q_1134 2 u_1144)] H := hP
  have hD : va_D A [(aI ca q_1124 940 (fun _ => 0)), (aI ca q_1125 376 g_1849), (aI ca q_1127 752 (fun _ => 0)), (aI ca q_1128 360 (fun _ => 0)), (aI ca q_1129 45 (fun _ => 0)), (aJ ca q_1130 19 (fun _ => 0)), (aJ ca q_1131 19 (fun _ => 0)), (aJ ca q_1132 38 (fun _ => 0)), (aZ ca q_1133 2 (fun _ => 0)), (aI ca q_1135 10 (fun _ => 0)), (aZ ca q_1136 1024 (fun _ => 0)), (aI ca q_1137 64 (fun _ => 0)), (aI ca q_1138 80 (fun _ => 0)), (aI ca q_1139 4 (fun _ => 0)), (aI ca q_1140 240 (fun _ => 0)), (h0, .inr (11, [.int 0, .ref q_1124, .int 0, .int 0, .int 0, .int 0, .int 0, .int 0, .int 0, .int 0, .int 0, .int 0, .long 0, .int 0, .ref q_1125, .ref q_1126, .ref q_1127, .ref q_1128, .ref q_1129, .ref q_1130, .ref q_1131, .ref q_1132, .ref q_1133, .ref q_1134, .int 0, .int 0, .int 0, .int (-1), .int (-1), .int (-1), .ref q_1135, .int (-1), .int (-1), .ref q_1136, .int (-1), .int (-1), .ref q_1137, .int 0, .int 0, .ref q_1138, .ref q_1139, .int 0, .int 0, .ref q_1140, .int 0, .int 0, .int 0, .int 0])), (aI ca q_1126 89 u_1143), (aZ ca q_1134 2 u_1144)] := hD
  refine lv_iinc (v := 65) (lv' := [(1, .int 65), (0, .ref h0)]) hx hb dX12_init_202 hl (k := 0) rfl (by decide) (by decide) rfl (fun ls hl => ?_)
  refine lv_goto (tgt := 184) hx hb dX12_init_205 (by decide) ?_
  clear s_1836 s_1837 s_1838 s_1839 s_1840 s_1841 s_1842 s_1843 s_1844 s_1845 s_1846 s_1847 ex_1848 eg_1849
  refine lv_iload_n hx hb dX12_init_184 rfl (lv_at hl 0 rfl) ?_
  refine lv_bipush (v := 89) hx hb dX12_init_185 (by decide) ?_
  refine lv_icmp_ge (tgt := 208) hx hb dX12_init_187 (by decide) (fun c => absurd c (by decide)) (fun _ => ?_)
  refine lv_aload_n hx hb dX12_init_190 rfl (lv_at hl 1 rfl) ?_
  refine va_get (D := D) (ci := 11) (v := .ref q_1125) (C := RX12) (T := TX12) (N := 48) hx hb hts k6 hown hK.1 hP 15 rfl rfl 14 (by decide) k7 (fun _ h9 => h9) rfl dX12_init_191 ?_
  refine lv_iload_n hx hb dX12_init_194 rfl (lv_at hl 0 rfl) ?_
  refine lv_aload_n hx hb dX12_init_195 rfl (lv_at hl 1 rfl) ?_
  refine va_get (D := D) (ci := 11) (v := .ref q_1126) (C := RX12) (T := TX12) (N := 48) hx hb hts k6 hown hK.1 hP 15 rfl rfl 15 (by decide) k8 (fun _ h9 => h9) rfl dX12_init_196 ?_
  refine lv_iload_n hx hb dX12_init_199 rfl (lv_at hl 0 rfl) ?_
  refine va_iald hx hb hK.1 hP 16 0 rfl rfl (rg_in (⟨by decide, by decide⟩ : rg 65 65 (65 : Int32)) (by decide) (by decide)) dX12_init_200 ?_
  refine lv_topi (fun x_1863 ex_1863 => ?_)
  refine va_iast hx hb hK.1 hP hD hS 1 0 rfl rfl (rg_in (⟨by decide, by decide⟩ : rg 65 65 (65 : Int32)) (by decide) (by decide)) dX12_init_201 (fun H locs hP hD hS => ?_)
  obtain ⟨g_1864, eg_1864⟩ : ∃ y : Nat → Int32, y = upd g_1849 (65 : Int32).toNatClampNeg (x_1863 : Int32) := ⟨_, rfl⟩
  rw [← eg_1864] at hP hD
  have s_1866 : sg 66 376 0 0 g_1864 := sg_out (sg_w s_1851 (by decide) (by decide) (by decide) (by decide)) eg_1864 (⟨by decide, by decide⟩ : rg 65 65 (65 : Int32)) (by decide) (by decide)
  have s_1867 : sg 0 1 0 10 g_1864 := sg_out s_1852 eg_1864 (⟨by decide, by decide⟩ : rg 65 65 (65 : Int32)) (by decide) (by decide)
  have s_1868 : sg 1 2 0 4 g_1864 := sg_out s_1853 eg_1864 (⟨by decide, by decide⟩ : rg 65 65 (65 : Int32)) (by decide) (by decide)
  have s_1869 : sg 2 3 0 5 g_1864 := sg_out s_1854 eg_1864 (⟨by decide, by decide⟩ : rg 65 65 (65 : Int32)) (by decide) (by decide)
  have s_1870 : sg 3 4 3 3 g_1864 := sg_out s_1855 eg_1864 (⟨by decide, by decide⟩ : rg 65 65 (65 : Int32)) (by decide) (by decide)
  have s_1871 : sg 4 5 1 1 g_1864 := sg_out s_1856 eg_1864 (⟨by decide, by decide⟩ : rg 65 65 (65 : Int32)) (by decide) (by decide)
  have s_1872 : sg 35 36 0 1023 g_1864 := sg_out s_1857 eg_1864 (⟨by decide, by decide⟩ : rg 65 65 (65 : Int32)) (by decide) (by decide)
  have s_1873 : sg 44 45 0 3 g_1864 := sg_out s_1858 eg_1864 (⟨by decide, by decide⟩ : rg 65 65 (65 : Int32)) (by decide) (by decide)
  have s_1874 : sg 45 46 0 3 g_1864 := sg_out s_1859 eg_1864 (⟨by decide, by decide⟩ : rg 65 65 (65 : Int32)) (by decide) (by decide)
  have s_1875 : sg 46 47 0 3 g_1864 := sg_out s_1860 eg_1864 (⟨by decide, by decide⟩ : rg 65 65 (65 : Int32)) (by decide) (by decide)
  have s_1876 : sg 47 48 0 3 g_1864 := sg_out s_1861 eg_1864 (⟨by decide, by decide⟩ : rg 65 65 (65 : Int32)) (by decide) (by decide)
  have s_1877 : sg 48 49 0 3 g_1864 := sg_out s_1862 eg_1864 (⟨by decide, by decide⟩ : rg 65 65 (65 : Int32)) (by decide) (by decide)
  have hP : va_P D vwCl [(aI ca q_1124 940 (fun _ => 0)), (aI ca q_1125 376 g_1864), (aI ca q_1127 752 (fun _ => 0)), (aI ca q_1128 360 (fun _ => 0)), (aI ca q_1129 45 (fun _ => 0)), (aJ ca q_1130 19 (fun _ => 0)), (aJ ca q_1131 19 (fun _ => 0)), (aJ ca q_1132 38 (fun _ => 0)), (aZ ca q_1133 2 (fun _ => 0)), (aI ca q_1135 10 (fun _ => 0)), (aZ ca q_1136 1024 (fun _ => 0)), (aI ca q_1137 64 (fun _ => 0)), (aI ca q_1138 80 (fun _ => 0)), (aI ca q_1139 4 (fun _ => 0)), (aI ca q_1140 240 (fun _ => 0)), (h0, .inr (11, [.int 0, .ref q_1124, .int 0, .int 0, .int 0, .int 0, .int 0, .int 0, .int 0, .int 0, .int 0, .int 0, .long 0, .int 0, .ref q_1125, .ref q_1126, .ref q_1127, .ref q_1128, .ref q_1129, .ref q_1130, .ref q_1131, .ref q_1132, .ref q_1133, .ref q_1134, .int 0, .int 0, .int 0, .int (-1), .int (-1), .int (-1), .ref q_1135, .int (-1), .int (-1), .ref q_1136, .int (-1), .int (-1), .ref q_1137, .int 0, .int 0, .ref q_1138, .ref q_1139, .int 0, .int 0, .ref q_1140, .int 0, .int 0, .int 0, .int 0])), (aI ca q_1126 89 u_1143), (aZ ca q_1134 2 u_1144)] H := hP
  have hD : va_D A [(aI ca q_1124 940 (fun _ => 0)), (aI ca q_1125 376 g_1864), (aI ca q_1127 752 (fun _ => 0)), (aI ca q_1128 360 (fun _ => 0)), (aI ca q_1129 45 (fun _ => 0)), (aJ ca q_1130 19 (fun _ => 0)), (aJ ca q_1131 19 (fun _ => 0)), (aJ ca q_1132 38 (fun _ => 0)), (aZ ca q_1133 2 (fun _ => 0)), (aI ca q_1135 10 (fun _ => 0)), (aZ ca q_1136 1024 (fun _ => 0)), (aI ca q_1137 64 (fun _ => 0)), (aI ca q_1138 80 (fun _ => 0)), (aI ca q_1139 4 (fun _ => 0)), (aI ca q_1140 240 (fun _ => 0)), (h0, .inr (11, [.int 0, .ref q_1124, .int 0, .int 0, .int 0, .int 0, .int 0, .int 0, .int 0, .int 0, .int 0, .int 0, .long 0, .int 0, .ref q_1125, .ref q_1126, .ref q_1127, .ref q_1128, .ref q_1129, .ref q_1130, .ref q_1131, .ref q_1132, .ref q_1133, .ref q_1134, .int 0, .int 0, .int 0, .int (-1), .int (-1), .int (-1), .ref q_1135, .int (-1), .int (-1), .ref q_1136, .int (-1), .int (-1), .ref q_1137, .int 0, .int 0, .ref q_1138, .ref q_1139, .int 0, .int 0, .ref q_1140, .int 0, .int 0, .int 0, .int 0])), (aI ca q_1126 89 u_1143), (aZ ca q_1134 2 u_1144)] := hD
  refine lv_iinc (v := 66) (lv' := [(1, .int 66), (0, .ref h0)]) hx hb dX12_init_202 hl (k := 0) rfl (by decide) (by decide) rfl (fun ls hl => ?_)
  refine lv_goto (tgt := 184) hx hb dX12_init_205 (by decide) ?_
  clear s_1851 s_1852 s_1853 s_1854 s_1855 s_1856 s_1857 s_1858 s_1859 s_1860 s_1861 s_1862 ex_1863 eg_1864
  refine lv_iload_n hx hb dX12_init_184 rfl (lv_at hl 0 rfl) ?_
  refine lv_bipush (v := 89) hx hb dX12_init_185 (by decide) ?_
  refine lv_icmp_ge (tgt := 208) hx hb dX12_init_187 (by decide) (fun c => absurd c (by decide)) (fun _ => ?_)
  refine lv_aload_n hx hb dX12_init_190 rfl (lv_at hl 1 rfl) ?_
  refine va_get (D := D) (ci := 11) (v := .ref q_1125) (C := RX12) (T := TX12) (N := 48) hx hb hts k6 hown hK.1 hP 15 rfl rfl 14 (by decide) k7 (fun _ h9 => h9) rfl dX12_init_191 ?_
  refine lv_iload_n hx hb dX12_init_194 rfl (lv_at hl 0 rfl) ?_
  refine lv_aload_n hx hb dX12_init_195 rfl (lv_at hl 1 rfl) ?_
  refine va_get (D := D) (ci := 11) (v := .ref q_1126) (C := RX12) (T := TX12) (N := 48) hx hb hts k6 hown hK.1 hP 15 rfl rfl 15 (by decide) k8 (fun _ h9 => h9) rfl dX12_init_196 ?_
  refine lv_iload_n hx hb dX12_init_199 rfl (lv_at hl 0 rfl) ?_
  refine va_iald hx hb hK.1 hP 16 0 rfl rfl (rg_in (⟨by decide, by decide⟩ : rg 66 66 (66 : Int32)) (by decide) (by decide)) dX12_init_200 ?_
  refine lv_topi (fun x_1878 ex_1878 => ?_)
  refine va_iast hx hb hK.1 hP hD hS 1 0 rfl rfl (rg_in (⟨by decide, by decide⟩ : rg 66 66 (66 : Int32)) (by decide) (by decide)) dX12_init_201 (fun H locs hP hD hS => ?_)
  obtain ⟨g_1879, eg_1879⟩ : ∃ y : Nat → Int32, y = upd g_1864 (66 : Int32).toNatClampNeg (x_1878 : Int32) := ⟨_, rfl⟩
  rw [← eg_1879] at hP hD
  have s_1881 : sg 67 376 0 0 g_1879 := sg_out (sg_w s_1866 (by decide) (by decide) (by decide) (by decide)) eg_1879 (⟨by decide, by decide⟩ : rg 66 66 (66 : Int32)) (by decide) (by decide)
  have s_1882 : sg 0 1 0 10 g_1879 := sg_out s_1867 eg_1879 (⟨by decide, by decide⟩ : rg 66 66 (66 : Int32)) (by decide) (by decide)
  have s_1883 : sg 1 2 0 4 g_1879 := sg_out s_1868 eg_1879 (⟨by decide, by decide⟩ : rg 66 66 (66 : Int32)) (by decide) (by decide)
  have s_1884 : sg 2 3 0 5 g_1879 := sg_out s_1869 eg_1879 (⟨by decide, by decide⟩ : rg 66 66 (66 : Int32)) (by decide) (by decide)
  have s_1885 : sg 3 4 3 3 g_1879 := sg_out s_1870 eg_1879 (⟨by decide, by decide⟩ : rg 66 66 (66 : Int32)) (by decide) (by decide)
  have s_1886 : sg 4 5 1 1 g_1879 := sg_out s_1871 eg_1879 (⟨by decide, by decide⟩ : rg 66 66 (66 : Int32)) (by decide) (by decide)
  have s_1887 : sg 35 36 0 1023 g_1879 := sg_out s_1872 eg_1879 (⟨by decide, by decide⟩ : rg 66 66 (66 : Int32)) (by decide) (by decide)
  have s_1888 : sg 44 45 0 3 g_1879 := sg_out s_1873 eg_1879 (⟨by decide, by decide⟩ : rg 66 66 (66 : Int32)) (by decide) (by decide)
  have s_1889 : sg 45 46 0 3 g_1879 := sg_out s_1874 eg_1879 (⟨by decide, by decide⟩ : rg 66 66 (66 : Int32)) (by decide) (by decide)
  have s_1890 : sg 46 47 0 3 g_1879 := sg_out s_1875 eg_1879 (⟨by decide, by decide⟩ : rg 66 66 (66 : Int32)) (by decide) (by decide)
  have s_1891 : sg 47 48 0 3 g_1879 := sg_out s_1876 eg_1879 (⟨by decide, by decide⟩ : rg 66 66 (66 : Int32)) (by decide) (by decide)
  have s_1892 : sg 48 49 0 3 g_1879 := sg_out s_1877 eg_1879 (⟨by decide, by decide⟩ : rg 66 66 (66 : Int32)) (by decide) (by decide)
  have hP : va_P D vwCl [(aI ca q_1124 940 (fun _ => 0)), (aI ca q_1125 376 g_1879), (aI ca q_1127 752 (fun _ => 0)), (aI ca q_1128 360 (fun _ => 0)), (aI ca q_1129 45 (fun _ => 0)), (aJ ca q_1130 19 (fun _ => 0)), (aJ ca q_1131 19 (fun _ => 0)), (aJ ca q_1132 38 (fun _ => 0)), (aZ ca q_1133 2 (fun _ => 0)), (aI ca q_1135 10 (fun _ => 0)), (aZ ca q_1136 1024 (fun _ => 0)), (aI ca q_1137 64 (fun _ => 0)), (aI ca q_1138 80 (fun _ => 0)), (aI ca q_1139 4 (fun _ => 0)), (aI ca q_1140 240 (fun _ => 0)), (h0, .inr (11, [.int 0, .ref q_1124, .int 0, .int 0, .int 0, .int 0, .int 0, .int 0, .int 0, .int 0, .int 0, .int 0, .long 0, .int 0, .ref q_1125, .ref q_1126, .ref q_1127, .ref q_1128, .ref q_1129, .ref q_1130, .ref q_1131, .ref q_1132, .ref q_1133, .ref q_1134, .int 0, .int 0, .int 0, .int (-1), .int (-1), .int (-1), .ref q_1135, .int (-1), .int (-1), .ref q_1136, .int (-1), .int (-1), .ref q_1137, .int 0, .int 0, .ref q_1138, .ref q_1139, .int 0, .int 0, .ref q_1140, .int 0, .int 0, .int 0, .int 0])), (aI ca q_1126 89 u_1143), (aZ ca q_1134 2 u_1144)] H := hP
  have hD : va_D A [(aI ca q_1124 940 (fun _ => 0)), (aI ca q_1125 376 g_1879), (aI ca q_1127 752 (fun _ => 0)), (aI ca q_1128 360 (fun _ => 0)), (aI ca q_1129 45 (fun _ => 0)), (aJ ca q_1130 19 (fun _ => 0)), (aJ ca q_1131 19 (fun _ => 0)), (aJ ca q_1132 38 (fun _ => 0)), (aZ ca q_1133 2 (fun _ => 0)), (aI ca q_1135 10 (fun _ => 0)), (aZ ca q_1136 1024 (fun _ => 0)), (aI ca q_1137 64 (fun _ => 0)), (aI ca q_1138 80 (fun _ => 0)), (aI ca q_1139 4 (fun _ => 0)), (aI ca q_1140 240 (fun _ => 0)), (h0, .inr (11, [.int 0, .ref q_1124, .int 0, .int 0, .int 0, .int 0, .int 0, .int 0, .int 0, .int 0, .int 0, .int 0, .long 0, .int 0, .ref q_1125, .ref q_1126, .ref q_1127, .ref q_1128, .ref q_1129, .ref q_1130, .ref q_1131, .ref q_1132, .ref q_1133, .ref q_1134, .int 0, .int 0, .int 0, .int (-1), .int (-1), .int (-1), .ref q_1135, .int (-1), .int (-1), .ref q_1136, .int (-1), .int (-1), .ref q_1137, .int 0, .int 0, .ref q_1138, .ref q_1139, .int 0, .int 0, .ref q_1140, .int 0, .int 0, .int 0, .int 0])), (aI ca q_1126 89 u_1143), (aZ ca q_1134 2 u_1144)] := hD
  refine lv_iinc (v := 67) (lv' := [(1, .int 67), (0, .ref h0)]) hx hb dX12_init_202 hl (k := 0) rfl (by decide) (by decide) rfl (fun ls hl => ?_)
  refine lv_goto (tgt := 184) hx hb dX12_init_205 (by decide) ?_
  clear s_1866 s_1867 s_1868 s_1869 s_1870 s_1871 s_1872 s_1873 s_1874 s_1875 s_1876 s_1877 ex_1878 eg_1879
  refine lv_iload_n hx hb dX12_init_184 rfl (lv_at hl 0 rfl) ?_
  refine lv_bipush (v := 89) hx hb dX12_init_185 (by decide) ?_
  refine lv_icmp_ge (tgt := 208) hx hb dX12_init_187 (by decide) (fun c => absurd c (by decide)) (fun _ => ?_)
  refine lv_aload_n hx hb dX12_init_190 rfl (lv_at hl 1 rfl) ?_
  refine va_get (D := D) (ci := 11) (v := .ref q_1125) (C := RX12) (T := TX12) (N := 48) hx hb hts k6 hown hK.1 hP 15 rfl rfl 14 (by decide) k7 (fun _ h9 => h9) rfl dX12_init_191 ?_
  refine lv_iload_n hx hb dX12_init_194 rfl (lv_at hl 0 rfl) ?_
  refine lv_aload_n hx hb dX12_init_195 rfl (lv_at hl 1 rfl) ?_
  refine va_get (D := D) (ci := 11) (v := .ref q_1126) (C := RX12) (T := TX12) (N := 48) hx hb hts k6 hown hK.1 hP 15 rfl rfl 15 (by decide) k8 (fun _ h9 => h9) rfl dX12_init_196 ?_
  refine lv_iload_n hx hb dX12_init_199 rfl (lv_at hl 0 rfl) ?_
  refine va_iald hx hb hK.1 hP 16 0 rfl rfl (rg_in (⟨by decide, by decide⟩ : rg 67 67 (67 : Int32)) (by decide) (by decide)) dX12_init_200 ?_
  refine lv_topi (fun x_1893 ex_1893 => ?_)
  refine va_iast hx hb hK.1 hP hD hS 1 0 rfl rfl (rg_in (⟨by decide, by decide⟩ : rg 67 67 (67 : Int32)) (by decide) (by decide)) dX12_init_201 (fun H locs hP hD hS => ?_)
  obtain ⟨g_1894, eg_1894⟩ : ∃ y : Nat → Int32, y = upd g_1879 (67 : Int32).toNatClampNeg (x_1893 : Int32) := ⟨_, rfl⟩
  rw [← eg_1894] at hP hD
  have s_1896 : sg 68 376 0 0 g_1894 := sg_out (sg_w s_1881 (by decide) (by decide) (by decide) (by decide)) eg_1894 (⟨by decide, by decide⟩ : rg 67 67 (67 : Int32)) (by decide) (by decide)
  have s_1897 : sg 0 1 0 10 g_1894 := sg_out s_1882 eg_1894 (⟨by decide, by decide⟩ : rg 67 67 (67 : Int32)) (by decide) (by decide)
  have s_1898 : sg 1 2 0 4 g_1894 := sg_out s_1883 eg_1894 (⟨by decide, by decide⟩ : rg 67 67 (67 : Int32)) (by decide) (by decide)
  have s_1899 : sg 2 3 0 5 g_1894 := sg_out s_1884 eg_1894 (⟨by decide, by decide⟩ : rg 67 67 (67 : Int32)) (by decide) (by decide)
  have s_1900 : sg 3 4 3 3 g_1894 := sg_out s_1885 eg_1894 (⟨by decide, by decide⟩ : rg 67 67 (67 : Int32)) (by decide) (by decide)
  have s_1901 : sg 4 5 1 1 g_1894 := sg_out s_1886 eg_1894 (⟨by decide, by decide⟩ : rg 67 67 (67 : Int32)) (by decide) (by decide)
  have s_1902 : sg 35 36 0 1023 g_1894 := sg_out s_1887 eg_1894 (⟨by decide, by decide⟩ : rg 67 67 (67 : Int32)) (by decide) (by decide)
  have s_1903 : sg 44 45 0 3 g_1894 := sg_out s_1888 eg_1894 (⟨by decide, by decide⟩ : rg 67 67 (67 : Int32)) (by decide) (by decide)
  have s_1904 : sg 45 46 0 3 g_1894 := sg_out s_1889 eg_1894 (⟨by decide, by decide⟩ : rg 67 67 (67 : Int32)) (by decide) (by decide)
  have s_1905 : sg 46 47 0 3 g_1894 := sg_out s_1890 eg_1894 (⟨by decide, by decide⟩ : rg 67 67 (67 : Int32)) (by decide) (by decide)
  have s_1906 : sg 47 48 0 3 g_1894 := sg_out s_1891 eg_1894 (⟨by decide, by decide⟩ : rg 67 67 (67 : Int32)) (by decide) (by decide)
  have s_1907 : sg 48 49 0 3 g_1894 := sg_out s_1892 eg_1894 (⟨by decide, by decide⟩ : rg 67 67 (67 : Int32)) (by decide) (by decide)
  have hP : va_P D vwCl [(aI ca q_1124 940 (fun _ => 0)), (aI ca q_1125 376 g_1894), (aI ca q_1127 752 (fun _ => 0)), (aI ca q_1128 360 (fun _ => 0)), (aI ca q_1129 45 (fun _ => 0)), (aJ ca q_1130 19 (fun _ => 0)), (aJ ca q_1131 19 (fun _ => 0)), (aJ ca q_1132 38 (fun _ => 0)), (aZ ca q_1133 2 (fun _ => 0)), (aI ca q_1135 10 (fun _ => 0)), (aZ ca q_1136 1024 (fun _ => 0)), (aI ca q_1137 64 (fun _ => 0)), (aI ca q_1138 80 (fun _ => 0)), (aI ca q_1139 4 (fun _ => 0)), (aI ca q_1140 240 (fun _ => 0)), (h0, .inr (11, [.int 0, .ref q_1124, .int 0, .int 0, .int 0, .int 0, .int 0, .int 0, .int 0, .int 0, .int 0, .int 0, .long 0, .int 0, .ref q_1125, .ref q_1126, .ref q_1127, .ref q_1128, .ref q_1129, .ref q_1130, .ref q_1131, .ref q_1132, .ref q_1133, .ref q_1134, .int 0, .int 0, .int 0, .int (-1), .int (-1), .int (-1), .ref q_1135, .int (-1), .int (-1), .ref q_1136, .int (-1), .int (-1), .ref q_1137, .int 0, .int 0, .ref q_1138, .ref q_1139, .int 0, .int 0, .ref q_1140, .int 0, .int 0, .int 0, .int 0])), (aI ca q_1126 89 u_1143), (aZ ca q_1134 2 u_1144)] H := hP
  have hD : va_D A [(aI ca q_1124 940 (fun _ => 0)), (aI ca q_1125 376 g_1894), (aI ca q_1127 752 (fun _ => 0)), (aI ca q_1128 360 (fun _ => 0)), (aI ca q_1129 45 (fun _ => 0)), (aJ ca q_1130 19 (fun _ => 0)), (aJ ca q_1131 19 (fun _ => 0)), (aJ ca q_1132 38 (fun _ => 0)), (aZ ca q_1133 2 (fun _ => 0)), (aI ca q_1135 10 (fun _ => 0)), (aZ ca q_1136 1024 (fun _ => 0)), (aI ca q_1137 64 (fun _ => 0)), (aI ca q_1138 80 (fun _ => 0)), (aI ca q_1139 4 (fun _ => 0)), (aI ca q_1140 240 (fun _ => 0)), (h0, .inr (11, [.int 0, .ref q_1124, .int 0, .int 0, .int 0, .int 0, .int 0, .int 0, .int 0, .int 0, .int 0, .int 0, .long 0, .int 0, .ref q_1125, .ref q_1126, .ref q_1127, .ref q_1128, .ref q_1129, .ref q_1130, .ref q_1131, .ref q_1132, .ref q_1133, .ref q_1134, .int 0, .int 0, .int 0, .int (-1), .int (-1), .int (-1), .ref q_1135, .int (-1), .int (-1), .ref q_1136, .int (-1), .int (-1), .ref q_1137, .int 0, .int 0, .ref q_1138, .ref q_1139, .int 0, .int 0, .ref q_1140, .int 0, .int 0, .int 0, .int 0])), (aI ca q_1126 89 u_1143), (aZ ca q_1134 2 u_1144)] := hD
  refine lv_iinc (v := 68) (lv' := [(1, .int 68), (0, .ref h0)]) hx hb dX12_init_202 hl (k := 0) rfl (by decide) (by decide) rfl (fun ls hl => ?_)
  refine lv_goto (tgt := 184) hx hb dX12_init_205 (by decide) ?_
  clear s_1881 s_1882 s_1883 s_1884 s_1885 s_1886 s_1887 s_1888 s_1889 s_1890 s_1891 s_1892 ex_1893 eg_1894
  refine lv_iload_n hx hb dX12_init_184 rfl (lv_at hl 0 rfl) ?_
  refine lv_bipush (v := 89) hx hb dX12_init_185 (by decide) ?_
  refine lv_icmp_ge (tgt := 208) hx hb dX12_init_187 (by decide) (fun c => absurd c (by decide)) (fun _ => ?_)
  refine lv_aload_n hx hb dX12_init_190 rfl (lv_at hl 1 rfl) ?_
  refine va_get (D := D) (ci := 11) (v := .ref q_1125) (C := RX12) (T := TX12) (N := 48) hx hb hts k6 hown hK.1 hP 15 rfl rfl 14 (by decide) k7 (fun _ h9 => h9) rfl dX12_init_191 ?_
  refine lv_iload_n hx hb dX12_init_194 rfl (lv_at hl 0 rfl) ?_
  refine lv_aload_n hx hb dX12_init_195 rfl (lv_at hl 1 rfl) ?_
  refine va_get (D := D) (ci := 11) (v := .ref q_1126) (C := RX12) (T := TX12) (N := 48) hx hb hts k6 hown hK.1 hP 15 rfl rfl 15 (by decide) k8 (fun _ h9 => h9) rfl dX12_init_196 ?_
  refine lv_iload_n hx hb dX12_init_199 rfl (lv_at hl 0 rfl) ?_
  refine va_iald hx hb hK.1 hP 16 0 rfl rfl (rg_in (⟨by decide, by decide⟩ : rg 68 68 (68 : Int32)) (by decide) (by decide)) dX12_init_200 ?_
  refine lv_topi (fun x_1908 ex_1908 => ?_)
  refine va_iast hx hb hK.1 hP hD hS 1 0 rfl rfl (rg_in (⟨by decide, by decide⟩ : rg 68 68 (68 : Int32)) (by decide) (by decide)) dX12_init_201 (fun H locs hP hD hS => ?_)
  obtain ⟨g_1909, eg_1909⟩ : ∃ y : Nat → Int32, y = upd g_1894 (68 : Int32).toNatClampNeg (x_1908 : Int32) := ⟨_, rfl⟩
  rw [← eg_1909] at hP hD
  have s_1911 : sg 69 376 0 0 g_1909 := sg_out (sg_w s_1896 (by decide) (by decide) (by decide) (by decide)) eg_1909 (⟨by decide, by decide⟩ : rg 68 68 (68 : Int32)) (by decide) (by decide)
  have s_1912 : sg 0 1 0 10 g_1909 := sg_out s_1897 eg_1909 (⟨by decide, by decide⟩ : rg 68 68 (68 : Int32)) (by decide) (by decide)
  have s_1913 : sg 1 2 0 4 g_1909 := sg_out s_1898 eg_1909 (⟨by decide, by decide⟩ : rg 68 68 (68 : Int32)) (by decide) (by decide)
  have s_1914 : sg 2 3 0 5 g_1909 := sg_out s_1899 eg_1909 (⟨by decide, by decide⟩ : rg 68 68 (68 : Int32)) (by decide) (by decide)
  have s_1915 : sg 3 4 3 3 g_1909 := sg_out s_1900 eg_1909 (⟨by decide, by decide⟩ : rg 68 68 (68 : Int32)) (by decide) (by decide)
  have s_1916 : sg 4 5 1 1 g_1909 := sg_out s_1901 eg_1909 (⟨by decide, by decide⟩ : rg 68 68 (68 : Int32)) (by decide) (by decide)
  have s_1917 : sg 35 36 0 1023 g_1909 := sg_out s_1902 eg_1909 (⟨by decide, by decide⟩ : rg 68 68 (68 : Int32)) (by decide) (by decide)
  have s_1918 : sg 44 45 0 3 g_1909 := sg_out s_1903 eg_1909 (⟨by decide, by decide⟩ : rg 68 68 (68 : Int32)) (by decide) (by decide)
  have s_1919 : sg 45 46 0 3 g_1909 := sg_out s_1904 eg_1909 (⟨by decide, by decide⟩ : rg 68 68 (68 : Int32)) (by decide) (by decide)
  have s_1920 : sg 46 47 0 3 g_1909 := sg_out s_1905 eg_1909 (⟨by decide, by decide⟩ : rg 68 68 (68 : Int32)) (by decide) (by decide)
  have s_1921 : sg 47 48 0 3 g_1909 := sg_out s_1906 eg_1909 (⟨by decide, by decide⟩ : rg 68 68 (68 : Int32)) (by decide) (by decide)
  have s_1922 : sg 48 49 0 3 g_1909 := sg_out s_1907 eg_1909 (⟨by decide, by decide⟩ : rg 68 68 (68 : Int32)) (by decide) (by decide)
  have hP : va_P D vwCl [(aI ca q_1124 940 (fun _ => 0)), (aI ca q_1125 376 g_1909), (aI ca q_1127 752 (fun _ => 0)), (aI ca q_1128 360 (fun _ => 0)), (aI ca q_1129 45 (fun _ => 0)), (aJ ca q_1130 19 (fun _ => 0)), (aJ ca q_1131 19 (fun _ => 0)), (aJ ca q_1132 38 (fun _ => 0)), (aZ ca q_1133 2 (fun _ => 0)), (aI ca q_1135 10 (fun _ => 0)), (aZ ca q_1136 1024 (fun _ => 0)), (aI ca q_1137 64 (fun _ => 0)), (aI ca q_1138 80 (fun _ => 0)), (aI ca q_1139 4 (fun _ => 0)), (aI ca q_1140 240 (fun _ => 0)), (h0, .inr (11, [.int 0, .ref q_1124, .int 0, .int 0, .int 0, .int 0, .int 0, .int 0, .int 0, .int 0, .int 0, .int 0, .long 0, .int 0, .ref q_1125, .ref q_1126, .ref q_1127, .ref q_1128, .ref q_1129, .ref q_1130, .ref q_1131, .ref q_1132, .ref q_1133, .ref q_1134, .int 0, .int 0, .int 0, .int (-1), .int (-1), .int (-1), .ref q_1135, .int (-1), .int (-1), .ref q_1136, .int (-1), .int (-1), .ref q_1137, .int 0, .int 0, .ref q_1138, .ref q_1139, .int 0, .int 0, .ref q_1140, .int 0, .int 0, .int 0, .int 0])), (aI ca q_1126 89 u_1143), (aZ ca q_1134 2 u_1144)] H := hP
  have hD : va_D A [(aI ca q_1124 940 (fun _ => 0)), (aI ca q_1125 376 g_1909), (aI ca q_1127 752 (fun _ => 0)), (aI ca q_1128 360 (fun _ => 0)), (aI ca q_1129 45 (fun _ => 0)), (aJ ca q_1130 19 (fun _ => 0)), (aJ ca q_1131 19 (fun _ => 0)), (aJ ca q_1132 38 (fun _ => 0)), (aZ ca q_1133 2 (fun _ => 0)), (aI ca q_1135 10 (fun _ => 0)), (aZ ca q_1136 1024 (fun _ => 0)), (aI ca q_1137 64 (fun _ => 0)), (aI ca q_1138 80 (fun _ => 0)), (aI ca q_1139 4 (fun _ => 0)), (aI ca q_1140 240 (fun _ => 0)), (h0, .inr (11, [.int 0, .ref q_1124, .int 0, .int 0, .int 0, .int 0, .int 0, .int 0, .int 0, .int 0, .int 0, .int 0, .long 0, .int 0, .ref q_1125, .ref q_1126, .ref q_1127, .ref q_1128, .ref q_1129, .ref q_1130, .ref q_1131, .ref q_1132, .ref q_1133, .ref q_1134, .int 0, .int 0, .int 0, .int (-1), .int (-1), .int (-1), .ref q_1135, .int (-1), .int (-1), .ref q_1136, .int (-1), .int (-1), .ref q_1137, .int 0, .int 0, .ref q_1138, .ref q_1139, .int 0, .int 0, .ref q_1140, .int 0, .int 0, .int 0, .int 0])), (aI ca q_1126 89 u_1143), (aZ ca q_1134 2 u_1144)] := hD
  refine lv_iinc (v := 69) (lv' := [(1, .int 69), (0, .ref h0)]) hx hb dX12_init_202 hl (k := 0) rfl (by decide) (by decide) rfl (fun ls hl => ?_)
  refine lv_goto (tgt := 184) hx hb dX12_init_205 (by decide) ?_
  clear s_1896 s_1897 s_1898 s_1899 s_1900 s_1901 s_1902 s_1903 s_1904 s_1905 s_1906 s_1907 ex_1908 eg_1909
  refine lv_iload_n hx hb dX12_init_184 rfl (lv_at hl 0 rfl) ?_
  refine lv_bipush (v := 89) hx hb dX12_init_185 (by decide) ?_
  refine lv_icmp_ge (tgt := 208) hx hb dX12_init_187 (by decide) (fun c => absurd c (by decide)) (fun _ => ?_)
  refine lv_aload_n hx hb dX12_init_190 rfl (lv_at hl 1 rfl) ?_
  refine va_get (D := D) (ci := 11) (v := .ref q_1125) (C := RX12) (T := TX12) (N := 48) hx hb hts k6 hown hK.1 hP 15 rfl rfl 14 (by decide) k7 (fun _ h9 => h9) rfl dX12_init_191 ?_
  refine lv_iload_n hx hb dX12_init_194 rfl (lv_at hl 0 rfl) ?_
  refine lv_aload_n hx hb dX12_init_195 rfl (lv_at hl 1 rfl) ?_
  refine va_get (D := D) (ci := 11) (v := .ref q_1126) (C := RX12) (T := TX12) (N := 48) hx hb hts k6 hown hK.1 hP 15 rfl rfl 15 (by decide) k8 (fun _ h9 => h9) rfl dX12_init_196 ?_
  refine lv_iload_n hx hb dX12_init_199 rfl (lv_at hl 0 rfl) ?_
  refine va_iald hx hb hK.1 hP 16 0 rfl rfl (rg_in (⟨by decide, by decide⟩ : rg 69 69 (69 : Int32)) (by decide) (by decide)) dX12_init_200 ?_
  refine lv_topi (fun x_1923 ex_1923 => ?_)
  refine va_iast hx hb hK.1 hP hD hS 1 0 rfl rfl (rg_in (⟨by decide, by decide⟩ : rg 69 69 (69 : Int32)) (by decide) (by decide)) dX12_init_201 (fun H locs hP hD hS => ?_)
  obtain ⟨g_1924, eg_1924⟩ : ∃ y : Nat → Int32, y = upd g_1909 (69 : Int32).toNatClampNeg (x_1923 : Int32) := ⟨_, rfl⟩
  rw [← eg_1924] at hP hD
  have s_1926 : sg 70 376 0 0 g_1924 := sg_out (sg_w s_1911 (by decide) (by decide) (by decide) (by decide)) eg_1924 (⟨by decide, by decide⟩ : rg 69 69 (69 : Int32)) (by decide) (by decide)
  have s_1927 : sg 0 1 0 10 g_1924 := sg_out s_1912 eg_1924 (⟨by decide, by decide⟩ : rg 69 69 (69 : Int32)) (by decide) (by decide)
  have s_1928 : sg 1 2 0 4 g_1924 := sg_out s_1913 eg_1924 (⟨by decide, by decide⟩ : rg 69 69 (69 : Int32)) (by decide) (by decide)
  have s_1929 : sg 2 3 0 5 g_1924 := sg_out s_1914 eg_1924 (⟨by decide, by decide⟩ : rg 69 69 (69 : Int32)) (by decide) (by decide)
  have s_1930 : sg 3 4 3 3 g_1924 := sg_out s_1915 eg_1924 (⟨by decide, by decide⟩ : rg 69 69 (69 : Int32)) (by decide) (by decide)
  have s_1931 : sg 4 5 1 1 g_1924 := sg_out s_1916 eg_1924 (⟨by decide, by decide⟩ : rg 69 69 (69 : Int32)) (by decide) (by decide)
  have s_1932 : sg 35 36 0 1023 g_1924 := sg_out s_1917 eg_1924 (⟨by decide, by decide⟩ : rg 69 69 (69 : Int32)) (by decide) (by decide)
  have s_1933 : sg 44 45 0 3 g_1924 := sg_out s_1918 eg_1924 (⟨by decide, by decide⟩ : rg 69 69 (69 : Int32)) (by decide) (by decide)
  have s_1934 : sg 45 46 0 3 g_1924 := sg_out s_1919 eg_1924 (⟨by decide, by decide⟩ : rg 69 69 (69 : Int32)) (by decide) (by decide)
  have s_1935 : sg 46 47 0 3 g_1924 := sg_out s_1920 eg_1924 (⟨by decide, by decide⟩ : rg 69 69 (69 : Int32)) (by decide) (by decide)
  have s_1936 : sg 47 48 0 3 g_1924 := sg_out s_1921 eg_1924 (⟨by decide, by decide⟩ : rg 69 69 (69 : Int32)) (by decide) (by decide)
  have s_1937 : sg 48 49 0 3 g_1924 := sg_out s_1922 eg_1924 (⟨by decide, by decide⟩ : rg 69 69 (69 : Int32)) (by decide) (by decide)
  have hP : va_P D vwCl [(aI ca q_1124 940 (fun _ => 0)), (aI ca q_1125 376 g_1924), (aI ca q_1127 752 (fun _ => 0)), (aI ca q_1128 360 (fun _ => 0)), (aI ca q_1129 45 (fun _ => 0)), (aJ ca q_1130 19 (fun _ => 0)), (aJ ca q_1131 19 (fun _ => 0)), (aJ ca q_1132 38 (fun _ => 0)), (aZ ca q_1133 2 (fun _ => 0)), (aI ca q_1135 10 (fun _ => 0)), (aZ ca q_1136 1024 (fun _ => 0)), (aI ca q_1137 64 (fun _ => 0)), (aI ca q_1138 80 (fun _ => 0)), (aI ca q_1139 4 (fun _ => 0)), (aI ca q_1140 240 (fun _ => 0)), (h0, .inr (11, [.int 0, .ref q_1124, .int 0, .int 0, .int 0, .int 0, .int 0, .int 0, .int 0, .int 0, .int 0, .int 0, .long 0, .int 0, .ref q_1125, .ref q_1126, .ref q_1127, .ref q_1128, .ref q_1129, .ref q_1130, .ref q_1131, .ref q_1132, .ref q_1133, .ref q_1134, .int 0, .int 0, .int 0, .int (-1), .int (-1), .int (-1), .ref q_1135, .int (-1), .int (-1), .ref q_1136, .int (-1), .int (-1), .ref q_1137, .int 0, .int 0, .ref q_1138, .ref q_1139, .int 0, .int 0, .ref q_1140, .int 0, .int 0, .int 0, .int 0])), (aI ca q_1126 89 u_1143), (aZ ca q_1134 2 u_1144)] H := hP
  have hD : va_D A [(aI ca q_1124 940 (fun _ => 0)), (aI ca q_1125 376 g_1924), (aI ca q_1127 752 (fun _ => 0)), (aI ca q_1128 360 (fun _ => 0)), (aI ca q_1129 45 (fun _ => 0)), (aJ ca q_1130 19 (fun _ => 0)), (aJ ca q_1131 19 (fun _ => 0)), (aJ ca q_1132 38 (fun _ => 0)), (aZ ca q_1133 2 (fun _ => 0)), (aI ca q_1135 10 (fun _ => 0)), (aZ ca q_1136 1024 (fun _ => 0)), (aI ca q_1137 64 (fun _ => 0)), (aI ca q_1138 80 (fun _ => 0)), (aI ca q_1139 4 (fun _ => 0)), (aI ca q_1140 240 (fun _ => 0)), (h0, .inr (11, [.int 0, .ref q_1124, .int 0, .int 0, .int 0, .int 0, .int 0, .int 0, .int 0, .int 0, .int 0, .int 0, .long 0, .int 0, .ref q_1125, .ref q_1126, .ref q_1127, .ref q_1128, .ref q_1129, .ref q_1130, .ref q_1131, .ref q_1132, .ref q_1133, .ref q_1134, .int 0, .int 0, .int 0, .int (-1), .int (-1), .int (-1), .ref q_1135, .int (-1), .int (-1), .ref q_1136, .int (-1), .int (-1), .ref q_1137, .int 0, .int 0, .ref q_1138, .ref q_1139, .int 0, .int 0, .ref q_1140, .int 0, .int 0, .int 0, .int 0])), (aI ca q_1126 89 u_1143), (aZ ca q_1134 2 u_1144)] := hD
  refine lv_iinc (v := 70) (lv' := [(1, .int 70), (0, .ref h0)]) hx hb dX12_init_202 hl (k := 0) rfl (by decide) (by decide) rfl (fun ls hl => ?_)
  refine lv_goto (tgt := 184) hx hb dX12_init_205 (by decide) ?_
  clear s_1911 s_1912 s_1913 s_1914 s_1915 s_1916 s_1917 s_1918 s_1919 s_1920 s_1921 s_1922 ex_1923 eg_1924
  refine lv_iload_n hx hb dX12_init_184 rfl (lv_at hl 0 rfl) ?_
  refine lv_bipush (v := 89) hx hb dX12_init_185 (by decide) ?_
  refine lv_icmp_ge (tgt := 208) hx hb dX12_init_187 (by decide) (fun c => absurd c (by decide)) (fun _ => ?_)
  refine lv_aload_n hx hb dX12_init_190 rfl (lv_at hl 1 rfl) ?_
  refine va_get (D := D) (ci := 11) (v := .ref q_1125) (C := RX12) (T := TX12) (N := 48) hx hb hts k6 hown hK.1 hP 15 rfl rfl 14 (by decide) k7 (fun _ h9 => h9) rfl dX12_init_191 ?_
  refine lv_iload_n hx hb dX12_init_194 rfl (lv_at hl 0 rfl) ?_
  refine lv_aload_n hx hb dX12_init_195 rfl (lv_at hl 1 rfl) ?_
  refine va_get (D := D) (ci := 11) (v := .ref q_1126) (C := RX12) (T := TX12) (N := 48) hx hb hts k6 hown hK.1 hP 15 rfl rfl 15 (by decide) k8 (fun _ h9 => h9) rfl dX12_init_196 ?_
  refine lv_iload_n hx hb dX12_init_199 rfl (lv_at hl 0 rfl) ?_
  refine va_iald hx hb hK.1 hP 16 0 rfl rfl (rg_in (⟨by decide, by decide⟩ : rg 70 70 (70 : Int32)) (by decide) (by decide)) dX12_init_200 ?_
  refine lv_topi (fun x_1938 ex_1938 => ?_)
  refine va_iast hx hb hK.1 hP hD hS 1 0 rfl rfl (rg_in (⟨by decide, by decide⟩ : rg 70 70 (70 : Int32)) (by decide) (by decide)) dX12_init_201 (fun H locs hP hD hS => ?_)
  obtain ⟨g_1939, eg_1939⟩ : ∃ y : Nat → Int32, y = upd g_1924 (70 : Int32).toNatClampNeg (x_1938 : Int32) := ⟨_, rfl⟩
  rw [← eg_1939] at hP hD
  have s_1941 : sg 71 376 0 0 g_1939 := sg_out (sg_w s_1926 (by decide) (by decide) (by decide) (by decide)) eg_1939 (⟨by decide, by decide⟩ : rg 70 70 (70 : Int32)) (by decide) (by decide)
  have s_1942 : sg 0 1 0 10 g_1939 := sg_out s_1927 eg_1939 (⟨by decide, by decide⟩ : rg 70 70 (70 : Int32)) (by decide) (by decide)
  have s_1943 : sg 1 2 0 4 g_1939 := sg_out s_1928 eg_1939 (⟨by decide, by decide⟩ : rg 70 70 (70 : Int32)) (by decide) (by decide)
  have s_1944 : sg 2 3 0 5 g_1939 := sg_out s_1929 eg_1939 (⟨by decide, by decide⟩ : rg 70 70 (70 : Int32)) (by decide) (by decide)
  have s_1945 : sg 3 4 3 3 g_1939 := sg_out s_1930 eg_1939 (⟨by decide, by decide⟩ : rg 70 70 (70 : Int32)) (by decide) (by decide)
  have s_1946 : sg 4 5 1 1 g_1939 := sg_out s_1931 eg_1939 (⟨by decide, by decide⟩ : rg 70 70 (70 : Int32)) (by decide) (by decide)
  have s_1947 : sg 35 36 0 1023 g_1939 := sg_out s_1932 eg_1939 (⟨by decide, by decide⟩ : rg 70 70 (70 : Int32)) (by decide) (by decide)
  have s_1948 : sg 44 45 0 3 g_1939 := sg_out s_1933 eg_1939 (⟨by decide, by decide⟩ : rg 70 70 (70 : Int32)) (by decide) (by decide)
  have s_1949 : sg 45 46 0 3 g_1939 := sg_out s_1934 eg_1939 (⟨by decide, by decide⟩ : rg 70 70 (70 : Int32)) (by decide) (by decide)
  have s_1950 : sg 46 47 0 3 g_1939 := sg_out s_1935 eg_1939 (⟨by decide, by decide⟩ : rg 70 70 (70 : Int32)) (by decide) (by decide)
  have s_1951 : sg 47 48 0 3 g_1939 := sg_out s_1936 eg_1939 (⟨by decide, by decide⟩ : rg 70 70 (70 : Int32)) (by decide) (by decide)
  have s_1952 : sg 48 49 0 3 g_1939 := sg_out s_1937 eg_1939 (⟨by decide, by decide⟩ : rg 70 70 (70 : Int32)) (by decide) (by decide)
  have hP : va_P D vwCl [(aI ca q_1124 940 (fun _ => 0)), (aI ca q_1125 376 g_1939), (aI ca q_1127 752 (fun _ => 0)), (aI ca q_1128 360 (fun _ => 0)), (aI ca q_1129 45 (fun _ => 0)), (aJ ca q_1130 19 (fun _ => 0)), (aJ ca q_1131 19 (fun _ => 0)), (aJ ca q_1132 38 (fun _ => 0)), (aZ ca q_1133 2 (fun _ => 0)), (aI ca q_1135 10 (fun _ => 0)), (aZ ca q_1136 1024 (fun _ => 0)), (aI ca q_1137 64 (fun _ => 0)), (aI ca q_1138 80 (fun _ => 0)), (aI ca q_1139 4 (fun _ => 0)), (aI ca q_1140 240 (fun _ => 0)), (h0, .inr (11, [.int 0, .ref q_1124, .int 0, .int 0, .int 0, .int 0, .int 0, .int 0, .int 0, .int 0, .int 0, .int 0, .long 0, .int 0, .ref q_1125, .ref q_1126, .ref q_1127, .ref q_1128, .ref q_1129, .ref q_1130, .ref q_1131, .ref q_1132, .ref q_1133, .ref q_1134, .int 0, .int 0, .int 0, .int (-1), .int (-1), .int (-1), .ref q_1135, .int (-1), .int (-1), .ref q_1136, .int (-1), .int (-1), .ref q_1137, .int 0, .int 0, .ref q_1138, .ref q_1139, .int 0, .int 0, .ref q_1140, .int 0, .int 0, .int 0, .int 0])), (aI ca q_1126 89 u_1143), (aZ ca q_1134 2 u_1144)] H := hP
  have hD : va_D A [(aI ca q_1124 940 (fun _ => 0)), (aI ca q_1125 376 g_1939), (aI ca q_1127 752 (fun _ => 0)), (aI ca q_1128 360 (fun _ => 0)), (aI ca q_1129 45 (fun _ => 0)), (aJ ca q_1130 19 (fun _ => 0)), (aJ ca q_1131 19 (fun _ => 0)), (aJ ca q_1132 38 (fun _ => 0)), (aZ ca q_1133 2 (fun _ => 0)), (aI ca q_1135 10 (fun _ => 0)), (aZ ca q_1136 1024 (fun _ => 0)), (aI ca q_1137 64 (fun _ => 0)), (aI ca q_1138 80 (fun _ => 0)), (aI ca q_1139 4 (fun _ => 0)), (aI ca q_1140 240 (fun _ => 0)), (h0, .inr (11, [.int 0, .ref q_1124, .int 0, .int 0, .int 0, .int 0, .int 0, .int 0, .int 0, .int 0, .int 0, .int 0, .long 0, .int 0, .ref q_1125, .ref q_1126, .ref q_1127, .ref q_1128, .ref q_1129, .ref q_1130, .ref q_1131, .ref q_1132, .ref q_1133, .ref q_1134, .int 0, .int 0, .int 0, .int (-1), .int (-1), .int (-1), .ref q_1135, .int (-1), .int (-1), .ref q_1136, .int (-1), .int (-1), .ref q_1137, .int 0, .int 0, .ref q_1138, .ref q_1139, .int 0, .int 0, .ref q_1140, .int 0, .int 0, .int 0, .int 0])), (aI ca q_1126 89 u_1143), (aZ ca q_1134 2 u_1144)] := hD
  refine lv_iinc (v := 71) (lv' := [(1, .int 71), (0, .ref h0)]) hx hb dX12_init_202 hl (k := 0) rfl (by decide) (by decide) rfl (fun ls hl => ?_)
  refine lv_goto (tgt := 184) hx hb dX12_init_205 (by decide) ?_
  clear s_1926 s_1927 s_1928 s_1929 s_1930 s_1931 s_1932 s_1933 s_1934 s_1935 s_1936 s_1937 ex_1938 eg_1939
  refine lv_iload_n hx hb dX12_init_184 rfl (lv_at hl 0 rfl) ?_
  refine lv_bipush (v := 89) hx hb dX12_init_185 (by decide) ?_
  refine lv_icmp_ge (tgt := 208) hx hb dX12_init_187 (by decide) (fun c => absurd c (by decide)) (fun _ => ?_)
  refine lv_aload_n hx hb dX12_init_190 rfl (lv_at hl 1 rfl) ?_
  refine va_get (D := D) (ci := 11) (v := .ref q_1125) (C := RX12) (T := TX12) (N := 48) hx hb hts k6 hown hK.1 hP 15 rfl rfl 14 (by decide) k7 (fun _ h9 => h9) rfl dX12_init_191 ?_
  refine lv_iload_n hx hb dX12_init_194 rfl (lv_at hl 0 rfl) ?_
  refine lv_aload_n hx hb dX12_init_195 rfl (lv_at hl 1 rfl) ?_
  refine va_get (D := D) (ci := 11) (v := .ref q_1126) (C := RX12) (T := TX12) (N := 48) hx hb hts k6 hown hK.1 hP 15 rfl rfl 15 (by decide) k8 (fun _ h9 => h9) rfl dX12_init_196 ?_
  refine lv_iload_n hx hb dX12_init_199 rfl (lv_at hl 0 rfl) ?_
  refine va_iald hx hb hK.1 hP 16 0 rfl rfl (rg_in (⟨by decide, by decide⟩ : rg 71 71 (71 : Int32)) (by decide) (by decide)) dX12_init_200 ?_
  refine lv_topi (fun x_1953 ex_1953 => ?_)
  refine va_iast hx hb hK.1 hP hD hS 1 0 rfl rfl (rg_in (⟨by decide, by decide⟩ : rg 71 71 (71 : Int32)) (by decide) (by decide)) dX12_init_201 (fun H locs hP hD hS => ?_)
  obtain ⟨g_1954, eg_1954⟩ : ∃ y : Nat → Int32, y = upd g_1939 (71 : Int32).toNatClampNeg (x_1953 : Int32) := ⟨_, rfl⟩
  rw [← eg_1954] at hP hD
  have s_1956 : sg 72 376 0 0 g_1954 := sg_out (sg_w s_1941 (by decide) (by decide) (by decide) (by decide)) eg_1954 (⟨by decide, by decide⟩ : rg 71 71 (71 : Int32)) (by decide) (by decide)
  have s_1957 : sg 0 1 0 10 g_1954 := sg_out s_1942 eg_1954 (⟨by decide, by decide⟩ : rg 71 71 (71 : Int32)) (by decide) (by decide)
  have s_1958 : sg 1 2 0 4 g_1954 := sg_out s_1943 eg_1954 (⟨by decide, by decide⟩ : rg 71 71 (71 : Int32)) (by decide) (by decide)
  have s_1959 : sg 2 3 0 5 g_1954 := sg_out s_1944 eg_1954 (⟨by decide, by decide⟩ : rg 71 71 (71 : Int32)) (by decide) (by decide)
  have s_1960 : sg 3 4 3 3 g_1954 := sg_out s_1945 eg_1954 (⟨by decide, by decide⟩ : rg 71 71 (71 : Int32)) (by decide) (by decide)
  have s_1961 : sg 4 5 1 1 g_1954 := sg_out s_1946 eg_1954 (⟨by decide, by decide⟩ : rg 71 71 (71 : Int32)) (by decide) (by decide)
  have s_1962 : sg 35 36 0 1023 g_1954 := sg_out s_1947 eg_1954 (⟨by decide, by decide⟩ : rg 71 71 (71 : Int32)) (by decide) (by decide)
  have s_1963 : sg 44 45 0 3 g_1954 := sg_out s_1948 eg_1954 (⟨by decide, by decide⟩ : rg 71 71 (71 : Int32)) (by decide) (by decide)
  have s_1964 : sg 45 46 0 3 g_1954 := sg_out s_1949 eg_1954 (⟨by decide, by decide⟩ : rg 71 71 (71 : Int32)) (by decide) (by decide)
  have s_1965 : sg 46 47 0 3 g_1954 := sg_out s_1950 eg_1954 (⟨by decide, by decide⟩ : rg 71 71 (71 : Int32)) (by decide) (by decide)
  have s_1966 : sg 47 48 0 3 g_1954 := sg_out s_1951 eg_1954 (⟨by decide, by decide⟩ : rg 71 71 (71 : Int32)) (by decide) (by decide)
  have s_1967 : sg 48 49 0 3 g_1954 := sg_out s_1952 eg_1954 (⟨by decide, by decide⟩ : rg 71 71 (71 : Int32)) (by decide) (by decide)
  have hP : va_P D vwCl [(aI ca q_1124 940 (fun _ => 0)), (aI ca q_1125 376 g_1954), (aI ca q_1127 752 (fun _ => 0)), (aI ca q_1128 360 (fun _ => 0)), (aI ca q_1129 45 (fun _ => 0)), (aJ ca q_1130 19 (fun _ => 0)), (aJ ca q_1131 19 (fun _ => 0)), (aJ ca q_1132 38 (fun _ => 0)), (aZ ca q_1133 2 (fun _ => 0)), (aI ca q_1135 10 (fun _ => 0)), (aZ ca q_1136 1024 (fun _ => 0)), (aI ca q_1137 64 (fun _ => 0)), (aI ca q_1138 80 (fun _ => 0)), (aI ca q_1139 4 (fun _ => 0)), (aI ca q_1140 240 (fun _ => 0)), (h0, .inr (11, [.int 0, .ref q_1124, .int 0, .int 0, .int 0, .int 0, .int 0, .int 0, .int 0, .int 0, .int 0, .int 0, .long 0, .int 0, .ref q_1125, .ref q_1126, .ref q_1127, .ref q_1128, .ref q_1129, .ref q_1130, .ref q_1131, .ref q_1132, .ref q_1133, .ref q_1134, .int 0, .int 0, .int 0, .int (-1), .int (-1), .int (-1), .ref q_1135, .int (-1), .int (-1), .ref q_1136, .int (-1), .int (-1), .ref q_1137, .int 0, .int 0, .ref q_1138, .ref q_1139, .int 0, .int 0, .ref q_1140, .int 0, .int 0, .int 0, .int 0])), (aI ca q_1126 89 u_1143), (aZ ca q_1134 2 u_1144)] H := hP
  have hD : va_D A [(aI ca q_1124 940 (fun _ => 0)), (aI ca q_1125 376 g_1954), (aI ca q_1127 752 (fun _ => 0)), (aI ca q_1128 360 (fun _ => 0)), (aI ca q_1129 45 (fun _ => 0)), (aJ ca q_1130 19 (fun _ => 0)), (aJ ca q_1131 19 (fun _ => 0)), (aJ ca q_1132 38 (fun _ => 0)), (aZ ca q_1133 2 (fun _ => 0)), (aI ca q_1135 10 (fun _ => 0)), (aZ ca q_1136 1024 (fun _ => 0)), (aI ca q_1137 64 (fun _ => 0)), (aI ca q_1138 80 (fun _ => 0)), (aI ca q_1139 4 (fun _ => 0)), (aI ca q_1140 240 (fun _ => 0)), (h0, .inr (11, [.int 0, .ref q_1124, .int 0, .int 0, .int 0, .int 0, .int 0, .int 0, .int 0, .int 0, .int 0, .int 0, .long 0, .int 0, .ref q_1125, .ref q_1126, .ref q_1127, .ref q_1128, .ref q_1129, .ref q_1130, .ref q_1131, .ref q_1132, .ref q_1133, .ref q_1134, .int 0, .int 0, .int 0, .int (-1), .int (-1), .int (-1), .ref q_1135, .int (-1), .int (-1), .ref q_1136, .int (-1), .int (-1), .ref q_1137, .int 0, .int 0, .ref q_1138, .ref q_1139, .int 0, .int 0, .ref q_1140, .int 0, .int 0, .int 0, .int 0])), (aI ca q_1126 89 u_1143), (aZ ca q_1134 2 u_1144)] := hD
  refine lv_iinc (v := 72) (lv' := [(1, .int 72), (0, .ref h0)]) hx hb dX12_init_202 hl (k := 0) rfl (by decide) (by decide) rfl (fun ls hl => ?_)
  refine lv_goto (tgt := 184) hx hb dX12_init_205 (by decide) ?_
  clear s_1941 s_1942 s_1943 s_1944 s_1945 s_1946 s_1947 s_1948 s_1949 s_1950 s_1951 s_1952 ex_1953 eg_1954
  refine lv_iload_n hx hb dX12_init_184 rfl (lv_at hl 0 rfl) ?_
  refine lv_bipush (v := 89) hx hb dX12_init_185 (by decide) ?_
  refine lv_icmp_ge (tgt := 208) hx hb dX12_init_187 (by decide) (fun c => absurd c (by decide)) (fun _ => ?_)
  refine lv_aload_n hx hb dX12_init_190 rfl (lv_at hl 1 rfl) ?_
  refine va_get (D := D) (ci := 11) (v := .ref q_1125) (C := RX12) (T := TX12) (N := 48) hx hb hts k6 hown hK.1 hP 15 rfl rfl 14 (by decide) k7 (fun _ h9 => h9) rfl dX12_init_191 ?_
  refine lv_iload_n hx hb dX12_init_194 rfl (lv_at hl 0 rfl) ?_
  refine lv_aload_n hx hb dX12_init_195 rfl (lv_at hl 1 rfl) ?_
  refine va_get (D := D) (ci := 11) (v := .ref q_1126) (C := RX12) (T := TX12) (N := 48) hx hb hts k6 hown hK.1 hP 15 rfl rfl 15 (by decide) k8 (fun _ h9 => h9) rfl dX12_init_196 ?_
  refine lv_iload_n hx hb dX12_init_199 rfl (lv_at hl 0 rfl) ?_
  refine va_iald hx hb hK.1 hP 16 0 rfl rfl (rg_in (⟨by decide, by decide⟩ : rg 72 72 (72 : Int32)) (by decide) (by decide)) dX12_init_200 ?_
  refine lv_topi (fun x_1968 ex_1968 => ?_)
  refine va_iast hx hb hK.1 hP hD hS 1 0 rfl rfl (rg_in (⟨by decide, by decide⟩ : rg 72 72 (72 : Int32)) (by decide) (by decide)) dX12_init_201 (fun H locs hP hD hS => ?_)
  obtain ⟨g_1969, eg_1969⟩ : ∃ y : Nat → Int32, y = upd g_1954 (72 : Int32).toNatClampNeg (x_1968 : Int32) := ⟨_, rfl⟩
  rw [← eg_1969] at hP hD
  have s_1971 : sg 73 376 0 0 g_1969 := sg_out (sg_w s_1956 (by decide) (by decide) (by decide) (by decide)) eg_1969 (⟨by decide, by decide⟩ : rg 72 72 (72 : Int32)) (by decide) (by decide)
  have s_1972 : sg 0 1 0 10 g_1969 := sg_out s_1957 eg_1969 (⟨by decide, by decide⟩ : rg 72 72 (72 : Int32)) (by decide) (by decide)
  have s_1973 : sg 1 2 0 4 g_1969 := sg_out s_1958 eg_1969 (⟨by decide, by decide⟩ : rg 72 72 (72 : Int32)) (by decide) (by decide)
  have s_1974 : sg 2 3 0 5 g_1969 := sg_out s_1959 eg_1969 (⟨by decide, by decide⟩ : rg 72 72 (72 : Int32)) (by decide) (by decide)
  have s_1975 : sg 3 4 3 3 g_1969 := sg_out s_1960 eg_1969 (⟨by decide, by decide⟩ : rg 72 72 (72 : Int32)) (by decide) (by decide)
  have s_1976 : sg 4 5 1 1 g_1969 := sg_out s_1961 eg_1969 (⟨by decide, by decide⟩ : rg 72 72 (72 : Int32)) (by decide) (by decide)
  have s_1977 : sg 35 36 0 1023 g_1969 := sg_out s_1962 eg_1969 (⟨by decide, by decide⟩ : rg 72 72 (72 : Int32)) (by decide) (by decide)
  have s_1978 : sg 44 45 0 3 g_1969 := sg_out s_1963 eg_1969 (⟨by decide, by decide⟩ : rg 72 72 (72 : Int32)) (by decide) (by decide)
  have s_1979 : sg 45 46 0 3 g_1969 := sg_out s_1964 eg_1969 (⟨by decide, by decide⟩ : rg 72 72 (72 : Int32)) (by decide) (by decide)
  have s_1980 : sg 46 47 0 3 g_1969 := sg_out s_1965 eg_1969 (⟨by decide, by decide⟩ : rg 72 72 (72 : Int32)) (by decide) (by decide)
  have s_1981 : sg 47 48 0 3 g_1969 := sg_out s_1966 eg_1969 (⟨by decide, by decide⟩ : rg 72 72 (72 : Int32)) (by decide) (by decide)
  have s_1982 : sg 48 49 0 3 g_1969 := sg_out s_1967 eg_1969 (⟨by decide, by decide⟩ : rg 72 72 (72 : Int32)) (by decide) (by decide)
  have hP : va_P D vwCl [(aI ca q_1124 940 (fun _ => 0)), (aI ca q_1125 376 g_1969), (aI ca q_1127 752 (fun _ => 0)), (aI ca q_1128 360 (fun _ => 0)), (aI ca q_1129 45 (fun _ => 0)), (aJ ca q_1130 19 (fun _ => 0)), (aJ ca q_1131 19 (fun _ => 0)), (aJ ca q_1132 38 (fun _ => 0)), (aZ ca q_1133 2 (fun _ => 0)), (aI ca q_1135 10 (fun _ => 0)), (aZ ca q_1136 1024 (fun _ => 0)), (aI ca q_1137 64 (fun _ => 0)), (aI ca q_1138 80 (fun _ => 0)), (aI ca q_1139 4 (fun _ => 0)), (aI ca q_1140 240 (fun _ => 0)), (h0, .inr (11, [.int 0, .ref q_1124, .int 0, .int 0, .int 0, .int 0, .int 0, .int 0, .int 0, .int 0, .int 0, .int 0, .long 0, .int 0, .ref q_1125, .ref q_1126, .ref q_1127, .ref q_1128, .ref q_1129, .ref q_1130, .ref q_1131, .ref q_1132, .ref q_1133, .ref q_1134, .int 0, .int 0, .int 0, .int (-1), .int (-1), .int (-1), .ref q_1135, .int (-1), .int (-1), .ref q_1136, .int (-1), .int (-1), .ref q_1137, .int 0, .int 0, .ref q_1138, .ref q_1139, .int 0, .int 0, .ref q_1140, .int 0, .int 0, .int 0, .int 0])), (aI ca q_1126 89 u_1143), (aZ ca q_1134 2 u_1144)] H := hP
  have hD : va_D A [(aI ca q_1124 940 (fun _ => 0)), (aI ca q_1125 376 g_1969), (aI ca q_1127 752 (fun _ => 0)), (aI ca q_1128 360 (fun _ => 0)), (aI ca q_1129 45 (fun _ => 0)), (aJ ca q_1130 19 (fun _ => 0)), (aJ ca q_1131 19 (fun _ => 0)), (aJ ca q_1132 38 (fun _ => 0)), (aZ ca q_1133 2 (fun _ => 0)), (aI ca q_1135 10 (fun _ => 0)), (aZ ca q_1136 1024 (fun _ => 0)), (aI ca q_1137 64 (fun _ => 0)), (aI ca q_1138 80 (fun _ => 0)), (aI ca q_1139 4 (fun _ => 0)), (aI ca q_1140 240 (fun _ => 0)), (h0, .inr (11, [.int 0, .ref q_1124, .int 0, .int 0, .int 0, .int 0, .int 0, .int 0, .int 0, .int 0, .int 0, .int 0, .long 0, .int 0, .ref q_1125, .ref q_1126, .ref q_1127, .ref q_1128, .ref q_1129, .ref q_1130, .ref q_1131, .ref q_1132, .ref q_1133, .ref q_1134, .int 0, .int 0, .int 0, .int (-1), .int (-1), .int (-1), .ref q_1135, .int (-1), .int (-1), .ref q_1136, .int (-1), .int (-1), .ref q_1137, .int 0, .int 0, .ref q_1138, .ref q_1139, .int 0, .int 0, .ref q_1140, .int 0, .int 0, .int 0, .int 0])), (aI ca q_1126 89 u_1143), (aZ ca q_1134 2 u_1144)] := hD
  refine lv_iinc (v := 73) (lv' := [(1, .int 73), (0, .ref h0)]) hx hb dX12_init_202 hl (k := 0) rfl (by decide) (by decide) rfl (fun ls hl => ?_)
  refine lv_goto (tgt := 184) hx hb dX12_init_205 (by decide) ?_
  clear s_1956 s_1957 s_1958 s_1959 s_1960 s_1961 s_1962 s_1963 s_1964 s_1965 s_1966 s_1967 ex_1968 eg_1969
  refine lv_iload_n hx hb dX12_init_184 rfl (lv_at hl 0 rfl) ?_
  refine lv_bipush (v := 89) hx hb dX12_init_185 (by decide) ?_
  refine lv_icmp_ge (tgt := 208) hx hb dX12_init_187 (by decide) (fun c => absurd c (by decide)) (fun _ => ?_)
  refine lv_aload_n hx hb dX12_init_190 rfl (lv_at hl 1 rfl) ?_
  refine va_get (D := D) (ci := 11) (v := .ref q_1125) (C := RX12) (T := TX12) (N := 48) hx hb hts k6 hown hK.1 hP 15 rfl rfl 14 (by decide) k7 (fun _ h9 => h9) rfl dX12_init_191 ?_
  refine lv_iload_n hx hb dX12_init_194 rfl (lv_at hl 0 rfl) ?_
  refine lv_aload_n hx hb dX12_init_195 rfl (lv_at hl 1 rfl) ?_
  refine va_get (D := D) (ci := 11) (v := .ref q_1126) (C := RX12) (T := TX12) (N := 48) hx hb hts k6 hown hK.1 hP 15 rfl rfl 15 (by decide) k8 (fun _ h9 => h9) rfl dX12_init_196 ?_
  refine lv_iload_n hx hb dX12_init_199 rfl (lv_at hl 0 rfl) ?_
  refine va_iald hx hb hK.1 hP 16 0 rfl rfl (rg_in (⟨by decide, by decide⟩ : rg 73 73 (73 : Int32)) (by decide) (by decide)) dX12_init_200 ?_
  refine lv_topi (fun x_1983 ex_1983 => ?_)
  refine va_iast hx hb hK.1 hP hD hS 1 0 rfl rfl (rg_in (⟨by decide, by decide⟩ : rg 73 73 (73 : Int32)) (by decide) (by decide)) dX12_init_201 (fun H locs hP hD hS => ?_)
  obtain ⟨g_1984, eg_1984⟩ : ∃ y : Nat → Int32, y = upd g_1969 (73 : Int32).toNatClampNeg (x_1983 : Int32) := ⟨_, rfl⟩
  rw [← eg_1984] at hP hD
  have s_1986 : sg 74 376 0 0 g_1984 := sg_out (sg_w s_1971 (by decide) (by decide) (by decide) (by decide)) eg_1984 (⟨by decide, by decide⟩ : rg 73 73 (73 : Int32)) (by decide) (by decide)
  have s_1987 : sg 0 1 0 10 g_1984 := sg_out s_1972 eg_1984 (⟨by decide, by decide⟩ : rg 73 73 (73 : Int32)) (by decide) (by decide)
  have s_1988 : sg 1 2 0 4 g_1984 := sg_out s_1973 eg_1984 (⟨by decide, by decide⟩ : rg 73 73 (73 : Int32)) (by decide) (by decide)
  have s_1989 : sg 2 3 0 5 g_1984 := sg_out s_1974 eg_1984 (⟨by decide, by decide⟩ : rg 73 73 (73 : Int32)) (by decide) (by decide)
  have s_1990 : sg 3 4 3 3 g_1984 := sg_out s_1975 eg_1984 (⟨by decide, by decide⟩ : rg 73 73 (73 : Int32)) (by decide) (by decide)
  have s_1991 : sg 4 5 1 1 g_1984 := sg_out s_1976 eg_1984 (⟨by decide, by decide⟩ : rg 73 73 (73 : Int32)) (by decide) (by decide)
  have s_1992 : sg 35 36 0 1023 g_1984 := sg_out s_1977 eg_1984 (⟨by decide, by decide⟩ : rg 73 73 (73 : Int32)) (by decide) (by decide)
  have s_1993 : sg 44 45 0 3 g_1984 := sg_out s_1978 eg_1984 (⟨by decide, by decide⟩ : rg 73 73 (73 : Int32)) (by decide) (by decide)
  have s_1994 : sg 45 46 0 3 g_1984 := sg_out s_1979 eg_1984 (⟨by decide, by decide⟩ : rg 73 73 (73 : Int32)) (by decide) (by decide)
  have s_1995 : sg 46 47 0 3 g_1984 := sg_out s_1980 eg_1984 (⟨by decide, by decide⟩ : rg 73 73 (73 : Int32)) (by decide) (by decide)
  have s_1996 : sg 47 48 0 3 g_1984 := sg_out s_1981 eg_1984 (⟨by decide, by decide⟩ : rg 73 73 (73 : Int32)) (by decide) (by decide)
  have s_1997 : sg 48 49 0 3 g_1984 := sg_out s_1982 eg_1984 (⟨by decide, by decide⟩ : rg 73 73 (73 : Int32)) (by decide) (by decide)
  have hP : va_P D vwCl [(aI ca q_1124 940 (fun _ => 0)), (aI ca q_1125 376 g_1984), (aI ca q_1127 752 (fun _ => 0)), (aI ca q_1128 360 (fun _ => 0)), (aI ca q_1129 45 (fun _ => 0)), (aJ ca q_1130 19 (fun _ => 0)), (aJ ca q_1131 19 (fun _ => 0)), (aJ ca q_1132 38 (fun _ => 0)), (aZ ca q_1133 2 (fun _ => 0)), (aI ca q_1135 10 (fun _ => 0)), (aZ ca q_1136 1024 (fun _ => 0)), (aI ca q_1137 64 (fun _ => 0)), (aI ca q_1138 80 (fun _ => 0)), (aI ca q_1139 4 (fun _ => 0)), (aI ca q_1140 240 (fun _ => 0)), (h0, .inr (11, [.int 0, .ref q_1124, .int 0, .int 0, .int 0, .int 0, .int 0, .int 0, .int 0, .int 0, .int 0, .int 0, .long 0, .int 0, .ref q_1125, .ref q_1126, .ref q_1127, .ref q_1128, .ref q_1129, .ref q_1130, .ref q_1131, .ref q_1132, .ref q_1133, .ref q_1134, .int 0, .int 0, .int 0, .int (-1), .int (-1), .int (-1), .ref q_1135, .int (-1), .int (-1), .ref q_1136, .int (-1), .int (-1), .ref q_1137, .int 0, .int 0, .ref q_1138, .ref q_1139, .int 0, .int 0, .ref q_1140, .int 0, .int 0, .int 0, .int 0])), (aI ca q_1126 89 u_1143), (aZ ca q_1134 2 u_1144)] H := hP
  have hD : va_D A [(aI ca q_1124 940 (fun _ => 0)), (aI ca q_1125 376 g_1984), (aI ca q_1127 752 (fun _ => 0)), (aI ca q_1128 360 (fun _ => 0)), (aI ca q_1129 45 (fun _ => 0)), (aJ ca q_1130 19 (fun _ => 0)), (aJ ca q_1131 19 (fun _ => 0)), (aJ ca q_1132 38 (fun _ => 0)), (aZ ca q_1133 2 (fun _ => 0)), (aI ca q_1135 10 (fun _ => 0)), (aZ ca q_1136 1024 (fun _ => 0)), (aI ca q_1137 64 (fun _ => 0)), (aI ca q_1138 80 (fun _ => 0)), (aI ca q_1139 4 (fun _ => 0)), (aI ca q_1140 240 (fun _ => 0)), (h0, .inr (11, [.int 0, .ref q_1124, .int 0, .int 0, .int 0, .int 0, .int 0, .int 0, .int 0, .int 0, .int 0, .int 0, .long 0, .int 0, .ref q_1125, .ref q_1126, .ref q_1127, .ref q_1128, .ref q_1129, .ref q_1130, .ref q_1131, .ref q_1132, .ref q_1133, .ref q_1134, .int 0, .int 0, .int 0, .int (-1), .int (-1), .int (-1), .ref q_1135, .int (-1), .int (-1), .ref q_1136, .int (-1), .int (-1), .ref q_1137, .int 0, .int 0, .ref q_1138, .ref q_1139, .int 0, .int 0, .ref q_1140, .int 0, .int 0, .int 0, .int 0])), (aI ca q_1126 89 u_1143), (aZ ca q_1134 2 u_1144)] := hD
  refine lv_iinc (v := 74) (lv' := [(1, .int 74), (0, .ref h0)]) hx hb dX12_init_202 hl (k := 0) rfl (by decide) (by decide) rfl (fun ls hl => ?_)
  refine lv_goto (tgt := 184) hx hb dX12_init_205 (by decide) ?_
  clear s_1971 s_1972 s_1973 s_1974 s_1975 s_1976 s_1977 s_1978 s_1979 s_1980 s_1981 s_1982 ex_1983 eg_1984
  refine lv_iload_n hx hb dX12_init_184 rfl (lv_at hl 0 rfl) ?_
  refine lv_bipush (v := 89) hx hb dX12_init_185 (by decide) ?_
  refine lv_icmp_ge (tgt := 208) hx hb dX12_init_187 (by decide) (fun c => absurd c (by decide)) (fun _ => ?_)
  refine lv_aload_n hx hb dX12_init_190 rfl (lv_at hl 1 rfl) ?_
  refine va_get (D := D) (ci := 11) (v := .ref q_1125) (C := RX12) (T := TX12) (N := 48) hx hb hts k6 hown hK.1 hP 15 rfl rfl 14 (by decide) k7 (fun _ h9 => h9) rfl dX12_init_191 ?_
  refine lv_iload_n hx hb dX12_init_194 rfl (lv_at hl 0 rfl) ?_
  refine lv_aload_n hx hb dX12_init_195 rfl (lv_at hl 1 rfl) ?_
  refine va_get (D := D) (ci := 11) (v := .ref q_1126) (C := RX12) (T := TX12) (N := 48) hx hb hts k6 hown hK.1 hP 15 rfl rfl 15 (by decide) k8 (fun _ h9 => h9) rfl dX12_init_196 ?_
  refine lv_iload_n hx hb dX12_init_199 rfl (lv_at hl 0 rfl) ?_
  refine va_iald hx hb hK.1 hP 16 0 rfl rfl (rg_in (⟨by decide, by decide⟩ : rg 74 74 (74 : Int32)) (by decide) (by decide)) dX12_init_200 ?_
  refine lv_topi (fun x_1998 ex_1998 => ?_)
  refine va_iast hx hb hK.1 hP hD hS 1 0 rfl rfl (rg_in (⟨by decide, by decide⟩ : rg 74 74 (74 : Int32)) (by decide) (by decide)) dX12_init_201 (fun H locs hP hD hS => ?_)
  obtain ⟨g_1999, eg_1999⟩ : ∃ y : Nat → Int32, y = upd g_1984 (74 : Int32).toNatClampNeg (x_1998 : Int32) := ⟨_, rfl⟩
  rw [← eg_1999] at hP hD
  have s_2001 : sg 75 376 0 0 g_1999 := sg_out (sg_w s_1986 (by decide) (by decide) (by decide) (by decide)) eg_1999 (⟨by decide, by decide⟩ : rg 74 74 (74 : Int32)) (by decide) (by decide)
  have s_2002 : sg 0 1 0 10 g_1999 := sg_out s_1987 eg_1999 (⟨by decide, by decide⟩ : rg 74 74 (74 : Int32)) (by decide) (by decide)
  have s_2003 : sg 1 2 0 4 g_1999 := sg_out s_1988 eg_1999 (⟨by decide, by decide⟩ : rg 74 74 (74 : Int32)) (by decide) (by decide)
  have s_2004 : sg 2 3 0 5 g_1999 := sg_out s_1989 eg_1999 (⟨by decide, by decide⟩ : rg 74 74 (74 : Int32)) (by decide) (by decide)
  have s_2005 : sg 3 4 3 3 g_1999 := sg_out s_1990 eg_1999 (⟨by decide, by decide⟩ : rg 74 74 (74 : Int32)) (by decide) (by decide)
  have s_2006 : sg 4 5 1 1 g_1999 := sg_out s_1991 eg_1999 (⟨by decide, by decide⟩ : rg 74 74 (74 : Int32)) (by decide) (by decide)
  have s_2007 : sg 35 36 0 1023 g_1999 := sg_out s_1992 eg_1999 (⟨by decide, by decide⟩ : rg 74 74 (74 : Int32)) (by decide) (by decide)
  have s_2008 : sg 44 45 0 3 g_1999 := sg_out s_1993 eg_1999 (⟨by decide, by decide⟩ : rg 74 74 (74 : Int32)) (by decide) (by decide)
  have s_2009 : sg 45 46 0 3 g_1999 := sg_out s_1994 eg_1999 (⟨by decide, by decide⟩ : rg 74 74 (74 : Int32)) (by decide) (by decide)
  have s_2010 : sg 46 47 0 3 g_1999 := sg_out s_1995 eg_1999 (⟨by decide, by decide⟩ : rg 74 74 (74 : Int32)) (by decide) (by decide)
  have s_2011 : sg 47 48 0 3 g_1999 := sg_out s_1996 eg_1999 (⟨by decide, by decide⟩ : rg 74 74 (74 : Int32)) (by decide) (by decide)
  have s_2012 : sg 48 49 0 3 g_1999 := sg_out s_1997 eg_1999 (⟨by decide, by decide⟩ : rg 74 74 (74 : Int32)) (by decide) (by decide)
  have hP : va_P D vwCl [(aI ca q_1124 940 (fun _ => 0)), (aI ca q_1125 376 g_1999), (aI ca q_1127 752 (fun _ => 0)), (aI ca q_1128 360 (fun _ => 0)), (aI ca q_1129 45 (fun _ => 0)), (aJ ca q_1130 19 (fun _ => 0)), (aJ ca q_1131 19 (fun _ => 0)), (aJ ca q_1132 38 (fun _ => 0)), (aZ ca q_1133 2 (fun _ => 0)), (aI ca q_1135 10 (fun _ => 0)), (aZ ca q_1136 1024 (fun _ => 0)), (aI ca q_1137 64 (fun _ => 0)), (aI ca q_1138 80 (fun _ => 0)), (aI ca q_1139 4 (fun _ => 0)), (aI ca q_1140 240 (fun _ => 0)), (h0, .inr (11, [.int 0, .ref q_1124, .int 0, .int 0, .int 0, .int 0, .int 0, .int 0, .int 0, .int 0, .int 0, .int 0, .long 0, .int 0, .ref q_1125, .ref q_1126, .ref q_1127, .ref q_1128, .ref q_1129, .ref q_1130, .ref q_1131, .ref q_1132, .ref q_1133, .ref q_1134, .int 0, .int 0, .int 0, .int (-1), .int (-1), .int (-1), .ref q_1135, .int (-1), .int (-1), .ref q_1136, .int (-1), .int (-1), .ref q_1137, .int 0, .int 0, .ref q_1138, .ref q_1139, .int 0, .int 0, .ref q_1140, .int 0, .int 0, .int 0, .int 0])), (aI ca q_1126 89 u_1143), (aZ ca q_1134 2 u_1144)] H := hP
  have hD : va_D A [(aI ca q_1124 940 (fun _ => 0)), (aI ca q_1125 376 g_1999), (aI ca q_1127 752 (fun _ => 0)), (aI ca q_1128 360 (fun _ => 0)), (aI ca q_1129 45 (fun _ => 0)), (aJ ca q_1130 19 (fun _ => 0)), (aJ ca q_1131 19 (fun _ => 0)), (aJ ca q_1132 38 (fun _ => 0)), (aZ ca q_1133 2 (fun _ => 0)), (aI ca q_1135 10 (fun _ => 0)), (aZ ca q_1136 1024 (fun _ => 0)), (aI ca q_1137 64 (fun _ => 0)), (aI ca q_1138 80 (fun _ => 0)), (aI ca q_1139 4 (fun _ => 0)), (aI ca q_1140 240 (fun _ => 0)), (h0, .inr (11, [.int 0, .ref q_1124, .int 0, .int 0, .int 0, .int 0, .int 0, .int 0, .int 0, .int 0, .int 0, .int 0, .long 0, .int 0, .ref q_1125, .ref q_1126, .ref q_1127, .ref q_1128, .ref q_1129, .ref q_1130, .ref q_1131, .ref q_1132, .ref q_1133, .ref q_1134, .int 0, .int 0, .int 0, .int (-1), .int (-1), .int (-1), .ref q_1135, .int (-1), .int (-1), .ref q_1136, .int (-1), .int (-1), .ref q_1137, .int 0, .int 0, .ref q_1138, .ref q_1139, .int 0, .int 0, .ref q_1140, .int 0, .int 0, .int 0, .int 0])), (aI ca q_1126 89 u_1143), (aZ ca q_1134 2 u_1144)] := hD
  refine lv_iinc (v := 75) (lv' := [(1, .int 75), (0, .ref h0)]) hx hb dX12_init_202 hl (k := 0) rfl (by decide) (by decide) rfl (fun ls hl => ?_)
  refine lv_goto (tgt := 184) hx hb dX12_init_205 (by decide) ?_
  clear s_1986 s_1987 s_1988 s_1989 s_1990 s_1991 s_1992 s_1993 s_1994 s_1995 s_1996 s_1997 ex_1998 eg_1999
  refine lv_iload_n hx hb dX12_init_184 rfl (lv_at hl 0 rfl) ?_
  refine lv_bipush (v := 89) hx hb dX12_init_185 (by decide) ?_
  refine lv_icmp_ge (tgt := 208) hx hb dX12_init_187 (by decide) (fun c => absurd c (by decide)) (fun _ => ?_)
  refine lv_aload_n hx hb dX12_init_190 rfl (lv_at hl 1 rfl) ?_
  refine va_get (D := D) (ci := 11) (v := .ref q_1125) (C := RX12) (T := TX12) (N := 48) hx hb hts k6 hown hK.1 hP 15 rfl rfl 14 (by decide) k7 (fun _ h9 => h9) rfl dX12_init_191 ?_
  refine lv_iload_n hx hb dX12_init_194 rfl (lv_at hl 0 rfl) ?_
  refine lv_aload_n hx hb dX12_init_195 rfl (lv_at hl 1 rfl) ?_
  refine va_get (D := D) (ci := 11) (v := .ref q_1126) (C := RX12) (T := TX12) (N := 48) hx hb hts k6 hown hK.1 hP 15 rfl rfl 15 (by decide) k8 (fun _ h9 => h9) rfl dX12_init_196 ?_
  refine lv_iload_n hx hb dX12_init_199 rfl (lv_at hl 0 rfl) ?_
  refine va_iald hx hb hK.1 hP 16 0 rfl rfl (rg_in (⟨by decide, by decide⟩ : rg 75 75 (75 : Int32)) (by decide) (by decide)) dX12_init_200 ?_
  refine lv_topi (fun x_2013 ex_2013 => ?_)
  refine va_iast hx hb hK.1 hP hD hS 1 0 rfl rfl (rg_in (⟨by decide, by decide⟩ : rg 75 75 (75 : Int32)) (by decide) (by decide)) dX12_init_201 (fun H locs hP hD hS => ?_)
  obtain ⟨g_2014, eg_2014⟩ : ∃ y : Nat → Int32, y = upd g_1999 (75 : Int32).toNatClampNeg (x_2013 : Int32) := ⟨_, rfl⟩
  rw [← eg_2014] at hP hD
  have s_2016 : sg 76 376 0 0 g_2014 := sg_out (sg_w s_2001 (by decide) (by decide) (by decide) (by decide)) eg_2014 (⟨by decide, by decide⟩ : rg 75 75 (75 : Int32)) (by decide) (by decide)
  have s_2017 : sg 0 1 0 10 g_2014 := sg_out s_2002 eg_2014 (⟨by decide, by decide⟩ : rg 75 75 (75 : Int32)) (by decide) (by decide)
  have s_2018 : sg 1 2 0 4 g_2014 := sg_out s_2003 eg_2014 (⟨by decide, by decide⟩ : rg 75 75 (75 : Int32)) (by decide) (by decide)
  have s_2019 : sg 2 3 0 5 g_2014 := sg_out s_2004 eg_2014 (⟨by decide, by decide⟩ : rg 75 75 (75 : Int32)) (by decide) (by decide)
  have s_2020 : sg 3 4 3 3 g_2014 := sg_out s_2005 eg_2014 (⟨by decide, by decide⟩ : rg 75 75 (75 : Int32)) (by decide) (by decide)
  have s_2021 : sg 4 5 1 1 g_2014 := sg_out s_2006 eg_2014 (⟨by decide, by decide⟩ : rg 75 75 (75 : Int32)) (by decide) (by decide)
  have s_2022 : sg 35 36 0 1023 g_2014 := sg_out s_2007 eg_2014 (⟨by decide, by decide⟩ : rg 75 75 (75 : Int32)) (by decide) (by decide)
  have s_2023 : sg 44 45 0 3 g_2014 := sg_out s_2008 eg_2014 (⟨by decide, by decide⟩ : rg 75 75 (75 : Int32)) (by decide) (by decide)
  have s_2024 : sg 45 46 0 3 g_2014 := sg_out s_2009 eg_2014 (⟨by decide, by decide⟩ : rg 75 75 (75 : Int32)) (by decide) (by decide)
  have s_2025 : sg 46 47 0 3 g_2014 := sg_out s_2010 eg_2014 (⟨by decide, by decide⟩ : rg 75 75 (75 : Int32)) (by decide) (by decide)
  have s_2026 : sg 47 48 0 3 g_2014 := sg_out s_2011 eg_2014 (⟨by decide, by decide⟩ : rg 75 75 (75 : Int32)) (by decide) (by decide)
  have s_2027 : sg 48 49 0 3 g_2014 := sg_out s_2012 eg_2014 (⟨by decide, by decide⟩ : rg 75 75 (75 : Int32)) (by decide) (by decide)
  have hP : va_P D vwCl [(aI ca q_1124 940 (fun _ => 0)), (aI ca q_1125 376 g_2014), (aI ca q_1127 752 (fun _ => 0)), (aI ca q_1128 360 (fun _ => 0)), (aI ca q_1129 45 (fun _ => 0)), (aJ ca q_1130 19 (fun _ => 0)), (aJ ca q_1131 19 (fun _ => 0)), (aJ ca q_1132 38 (fun _ => 0)), (aZ ca q_1133 2 (fun _ => 0)), (aI ca q_1135 10 (fun _ => 0)), (aZ ca q_1136 1024 (fun _ => 0)), (aI ca q_1137 64 (fun _ => 0)), (aI ca q_1138 80 (fun _ => 0)), (aI ca q_1139 4 (fun _ => 0)), (aI ca q_1140 240 (fun _ => 0)), (h0, .inr (11, [.int 0, .ref q_1124, .int 0, .int 0, .int 0, .int 0, .int 0, .int 0, .int 0, .int 0, .int 0, .int 0, .long 0, .int 0, .ref q_1125, .ref q_1126, .ref q_1127, .ref q_1128, .ref q_1129, .ref q_1130, .ref q_1131, .ref q_1132, .ref q_1133, .ref q_1134, .int 0, .int 0, .int 0, .int (-1), .int (-1), .int (-1), .ref q_1135, .int (-1), .int (-1), .ref q_1136, .int (-1), .int (-1), .ref q_1137, .int 0, .int 0, .ref q_1138, .ref q_1139, .int 0, .int 0, .ref q_1140, .int 0, .int 0, .int 0, .int 0])), (aI ca q_1126 89 u_1143), (aZ ca q_1134 2 u_1144)] H := hP
  have hD : va_D A [(aI ca q_1124 940 (fun _ => 0)), (aI ca q_1125 376 g_2014), (aI ca q_1127 752 (fun _ => 0)), (aI ca q_1128 360 (fun _ => 0)), (aI ca q_1129 45 (fun _ => 0)), (aJ ca q_1130 19 (fun _ => 0)), (aJ ca q_1131 19 (fun _ => 0)), (aJ ca q_1132 38 (fun _ => 0)), (aZ ca q_1133 2 (fun _ => 0)), (aI ca q_1135 10 (fun _ => 0)), (aZ ca q_1136 1024 (fun _ => 0)), (aI ca q_1137 64 (fun _ => 0)), (aI ca q_1138 80 (fun _ => 0)), (aI ca q_1139 4 (fun _ => 0)), (aI ca q_1140 240 (fun _ => 0)), (h0, .inr (11, [.int 0, .ref q_1124, .int 0, .int 0, .int 0, .int 0, .int 0, .int 0, .int 0, .int 0, .int 0, .int 0, .long 0, .int 0, .ref q_1125, .ref q_1126, .ref q_1127, .ref q_1128, .ref q_1129, .ref q_1130, .ref q_1131, .ref q_1132, .ref q_1133, .ref q_1134, .int 0, .int 0, .int 0, .int (-1), .int (-1), .int (-1), .ref q_1135, .int (-1), .int (-1), .ref q_1136, .int (-1), .int (-1), .ref q_1137, .int 0, .int 0, .ref q_1138, .ref q_1139, .int 0, .int 0, .ref q_1140, .int 0, .int 0, .int 0, .int 0])), (aI ca q_1126 89 u_1143), (aZ ca q_1134 2 u_1144)] := hD
  refine lv_iinc (v := 76) (lv' := [(1, .int 76), (0, .ref h0)]) hx hb dX12_init_202 hl (k := 0) rfl (by decide) (by decide) rfl (fun ls hl => ?_)
  refine lv_goto (tgt := 184) hx hb dX12_init_205 (by decide) ?_
  clear s_2001 s_2002 s_2003 s_2004 s_2005 s_2006 s_2007 s_2008 s_2009 s_2010 s_2011 s_2012 ex_2013 eg_2014
  refine lv_iload_n hx hb dX12_init_184 rfl (lv_at hl 0 rfl) ?_
  refine lv_bipush (v := 89) hx hb dX12_init_185 (by decide) ?_
  refine lv_icmp_ge (tgt := 208) hx hb dX12_init_187 (by decide) (fun c => absurd c (by decide)) (fun _ => ?_)
  refine lv_aload_n hx hb dX12_init_190 rfl (lv_at hl 1 rfl) ?_
  refine va_get (D := D) (ci := 11) (v := .ref q_1125) (C := RX12) (T := TX12) (N := 48) hx hb hts k6 hown hK.1 hP 15 rfl rfl 14 (by decide) k7 (fun _ h9 => h9) rfl dX12_init_191 ?_
  refine lv_iload_n hx hb dX12_init_194 rfl (lv_at hl 0 rfl) ?_
  refine lv_aload_n hx hb dX12_init_195 rfl (lv_at hl 1 rfl) ?_
  refine va_get (D := D) (ci := 11) (v := .ref q_1126) (C := RX12) (T := TX12) (N := 48) hx hb hts k6 hown hK.1 hP 15 rfl rfl 15 (by decide) k8 (fun _ h9 => h9) rfl dX12_init_196 ?_
  refine lv_iload_n hx hb dX12_init_199 rfl (lv_at hl 0 rfl) ?_
  refine va_iald hx hb hK.1 hP 16 0 rfl rfl (rg_in (⟨by decide, by decide⟩ : rg 76 76 (76 : Int32)) (by decide) (by decide)) dX12_init_200 ?_
  refine lv_topi (fun x_2028 ex_2028 => ?_)
  refine va_iast hx hb hK.1 hP hD hS 1 0 rfl rfl (rg_in (⟨by decide, by decide⟩ : rg 76 76 (76 : Int32)) (by decide) (by decide)) dX12_init_201 (fun H locs hP hD hS => ?_)
  obtain ⟨g_2029, eg_2029⟩ : ∃ y : Nat → Int32, y = upd g_2014 (76 : Int32).toNatClampNeg (x_2028 : Int32) := ⟨_, rfl⟩
  rw [← eg_2029] at hP hD
  have s_2031 : sg 77 376 0 0 g_2029 := sg_out (sg_w s_2016 (by decide) (by decide) (by decide) (by decide)) eg_2029 (⟨by decide, by decide⟩ : rg 76 76 (76 : Int32)) (by decide) (by decide)
  have s_2032 : sg 0 1 0 10 g_2029 := sg_out s_2017 eg_2029 (⟨by decide, by decide⟩ : rg 76 76 (76 : Int32)) (by decide) (by decide)
  have s_2033 : sg 1 2 0 4 g_2029 := sg_out s_2018 eg_2029 (⟨by decide, by decide⟩ : rg 76 76 (76 : Int32)) (by decide) (by decide)
  have s_2034 : sg 2 3 0 5 g_2029 := sg_out s_2019 eg_2029 (⟨by decide, by decide⟩ : rg 76 76 (76 : Int32)) (by decide) (by decide)
  have s_2035 : sg 3 4 3 3 g_2029 := sg_out s_2020 eg_2029 (⟨by decide, by decide⟩ : rg 76 76 (76 : Int32)) (by decide) (by decide)
  have s_2036 : sg 4 5 1 1 g_2029 := sg_out s_2021 eg_2029 (⟨by decide, by decide⟩ : rg 76 76 (76 : Int32)) (by decide) (by decide)
  have s_2037 : sg 35 36 0 1023 g_2029 := sg_out s_2022 eg_2029 (⟨by decide, by decide⟩ : rg 76 76 (76 : Int32)) (by decide) (by decide)
  have s_2038 : sg 44 45 0 3 g_2029 := sg_out s_2023 eg_2029 (⟨by decide, by decide⟩ : rg 76 76 (76 : Int32)) (by decide) (by decide)
  have s_2039 : sg 45 46 0 3 g_2029 := sg_out s_2024 eg_2029 (⟨by decide, by decide⟩ : rg 76 76 (76 : Int32)) (by decide) (by decide)
  have s_2040 : sg 46 47 0 3 g_2029 := sg_out s_2025 eg_2029 (⟨by decide, by decide⟩ : rg 76 76 (76 : Int32)) (by decide) (by decide)
  have s_2041 : sg 47 48 0 3 g_2029 := sg_out s_2026 eg_2029 (⟨by decide, by decide⟩ : rg 76 76 (76 : Int32)) (by decide) (by decide)
  have s_2042 : sg 48 49 0 3 g_2029 := sg_out s_2027 eg_2029 (⟨by decide, by decide⟩ : rg 76 76 (76 : Int32)) (by decide) (by decide)
  have hP : va_P D vwCl [(aI ca q_1124 940 (fun _ => 0)), (aI ca q_1125 376 g_2029), (aI ca q_1127 752 (fun _ => 0)), (aI ca q_1128 360 (fun _ => 0)), (aI ca q_1129 45 (fun _ => 0)), (aJ ca q_1130 19 (fun _ => 0)), (aJ ca q_1131 19 (fun _ => 0)), (aJ ca q_1132 38 (fun _ => 0)), (aZ ca q_1133 2 (fun _ => 0)), (aI ca q_1135 10 (fun _ => 0)), (aZ ca q_1136 1024 (fun _ => 0)), (aI ca q_1137 64 (fun _ => 0)), (aI ca q_1138 80 (fun _ => 0)), (aI ca q_1139 4 (fun _ => 0)), (aI ca q_1140 240 (fun _ => 0)), (h0, .inr (11, [.int 0, .ref q_1124, .int 0, .int 0, .int 0, .int 0, .int 0, .int 0, .int 0, .int 0, .int 0, .int 0, .long 0, .int 0, .ref q_1125, .ref q_1126, .ref q_1127, .ref q_1128, .ref q_1129, .ref q_1130, .ref q_1131, .ref q_1132, .ref q_1133, .ref q_1134, .int 0, .int 0, .int 0, .int (-1), .int (-1), .int (-1), .ref q_1135, .int (-1), .int (-1), .ref q_1136, .int (-1), .int (-1), .ref q_1137, .int 0, .int 0, .ref q_1138, .ref q_1139, .int 0, .int 0, .ref q_1140, .int 0, .int 0, .int 0, .int 0])), (aI ca q_1126 89 u_1143), (aZ ca q_1134 2 u_1144)] H := hP
  have hD : va_D A [(aI ca q_1124 940 (fun _ => 0)), (aI ca q_1125 376 g_2029), (aI ca q_1127 752 (fun _ => 0)), (aI ca q_1128 360 (fun _ => 0)), (aI ca q_1129 45 (fun _ => 0)), (aJ ca q_1130 19 (fun _ => 0)), (aJ ca q_1131 19 (fun _ => 0)), (aJ ca q_1132 38 (fun _ => 0)), (aZ ca q_1133 2 (fun _ => 0)), (aI ca q_1135 10 (fun _ => 0)), (aZ ca q_1136 1024 (fun _ => 0)), (aI ca q_1137 64 (fun _ => 0)), (aI ca q_1138 80 (fun _ => 0)), (aI ca q_1139 4 (fun _ => 0)), (aI ca q_1140 240 (fun _ => 0)), (h0, .inr (11, [.int 0, .ref q_1124, .int 0, .int 0, .int 0, .int 0, .int 0, .int 0, .int 0, .int 0, .int 0, .int 0, .long 0, .int 0, .ref q_1125, .ref q_1126, .ref q_1127, .ref q_1128, .ref q_1129, .ref q_1130, .ref q_1131, .ref q_1132, .ref q_1133, .ref q_1134, .int 0, .int 0, .int 0, .int (-1), .int (-1), .int (-1), .ref q_1135, .int (-1), .int (-1), .ref q_1136, .int (-1), .int (-1), .ref q_1137, .int 0, .int 0, .ref q_1138, .ref q_1139, .int 0, .int 0, .ref q_1140, .int 0, .int 0, .int 0, .int 0])), (aI ca q_1126 89 u_1143), (aZ ca q_1134 2 u_1144)] := hD
  refine lv_iinc (v := 77) (lv' := [(1, .int 77), (0, .ref h0)]) hx hb dX12_init_202 hl (k := 0) rfl (by decide) (by decide) rfl (fun ls hl => ?_)
  refine lv_goto (tgt := 184) hx hb dX12_init_205 (by decide) ?_
  clear s_2016 s_2017 s_2018 s_2019 s_2020 s_2021 s_2022 s_2023 s_2024 s_2025 s_2026 s_2027 ex_2028 eg_2029
  refine lv_iload_n hx hb dX12_init_184 rfl (lv_at hl 0 rfl) ?_
  refine lv_bipush (v := 89) hx hb dX12_init_185 (by decide) ?_
  refine lv_icmp_ge (tgt := 208) hx hb dX12_init_187 (by decide) (fun c => absurd c (by decide)) (fun _ => ?_)
  refine lv_aload_n hx hb dX12_init_190 rfl (lv_at hl 1 rfl) ?_
  refine va_get (D := D) (ci := 11) (v := .ref q_1125) (C := RX12) (T := TX12) (N := 48) hx hb hts k6 hown hK.1 hP 15 rfl rfl 14 (by decide) k7 (fun _ h9 => h9) rfl dX12_init_191 ?_
  refine lv_iload_n hx hb dX12_init_194 rfl (lv_at hl 0 rfl) ?_
  refine lv_aload_n hx hb dX12_init_195 rfl (lv_at hl 1 rfl) ?_
  refine va_get (D := D) (ci := 11) (v := .ref q_1126) (C := RX12) (T := TX12) (N := 48) hx hb hts k6 hown hK.1 hP 15 rfl rfl 15 (by decide) k8 (fun _ h9 => h9) rfl dX12_init_196 ?_
  refine lv_iload_n hx hb dX12_init_199 rfl (lv_at hl 0 rfl) ?_
  refine va_iald hx hb hK.1 hP 16 0 rfl rfl (rg_in (⟨by decide, by decide⟩ : rg 77 77 (77 : Int32)) (by decide) (by decide)) dX12_init_200 ?_
  refine lv_topi (fun x_2043 ex_2043 => ?_)
  refine va_iast hx hb hK.1 hP hD hS 1 0 rfl rfl (rg_in (⟨by decide, by decide⟩ : rg 77 77 (77 : Int32)) (by decide) (by decide)) dX12_init_201 (fun H locs hP hD hS => ?_)
  obtain ⟨g_2044, eg_2044⟩ : ∃ y : Nat → Int32, y = upd g_2029 (77 : Int32).toNatClampNeg (x_2043 : Int32) := ⟨_, rfl⟩
  rw [← eg_2044] at hP hD
  have s_2046 : sg 78 376 0 0 g_2044 := sg_out (sg_w s_2031 (by decide) (by decide) (by decide) (by decide)) eg_2044 (⟨by decide, by decide⟩ : rg 77 77 (77 : Int32)) (by decide) (by decide)
  have s_2047 : sg 0 1 0 10 g_2044 := sg_out s_2032 eg_2044 (⟨by decide, by decide⟩ : rg 77 77 (77 : Int32)) (by decide) (by decide)
  have s_2048 : sg 1 2 0 4 g_2044 := sg_out s_2033 eg_2044 (⟨by decide, by decide⟩ : rg 77 77 (77 : Int32)) (by decide) (by decide)
  have s_2049 : sg 2 3 0 5 g_2044 := sg_out s_2034 eg_2044 (⟨by decide, by decide⟩ : rg 77 77 (77 : Int32)) (by decide) (by decide)
  have s_2050 : sg 3 4 3 3 g_2044 := sg_out s_2035 eg_2044 (⟨by decide, by decide⟩ : rg 77 77 (77 : Int32)) (by decide) (by decide)
  have s_2051 : sg 4 5 1 1 g_2044 := sg_out s_2036 eg_2044 (⟨by decide, by decide⟩ : rg 77 77 (77 : Int32)) (by decide) (by decide)
  have s_2052 : sg 35 36 0 1023 g_2044 := sg_out s_2037 eg_2044 (⟨by decide, by decide⟩ : rg 77 77 (77 : Int32)) (by decide) (by decide)
  have s_2053 : sg 44 45 0 3 g_2044 := sg_out s_2038 eg_2044 (⟨by decide, by decide⟩ : rg 77 77 (77 : Int32)) (by decide) (by decide)
  have s_2054 : sg 45 46 0 3 g_2044 := sg_out s_2039 eg_2044 (⟨by decide, by decide⟩ : rg 77 77 (77 : Int32)) (by decide) (by decide)
  have s_2055 : sg 46 47 0 3 g_2044 := sg_out s_2040 eg_2044 (⟨by decide, by decide⟩ : rg 77 77 (77 : Int32)) (by decide) (by decide)
  have s_2056 : sg 47 48 0 3 g_2044 := sg_out s_2041 eg_2044 (⟨by decide, by decide⟩ : rg 77 77 (77 : Int32)) (by decide) (by decide)
  have s_2057 : sg 48 49 0 3 g_2044 := sg_out s_2042 eg_2044 (⟨by decide, by decide⟩ : rg 77 77 (77 : Int32)) (by decide) (by decide)
  have hP : va_P D vwCl [(aI ca q_1124 940 (fun _ => 0)), (aI ca q_1125 376 g_2044), (aI ca q_1127 752 (fun _ => 0)), (aI ca q_1128 360 (fun _ => 0)), (aI ca q_1129 45 (fun _ => 0)), (aJ ca q_1130 19 (fun _ => 0)), (aJ ca q_1131 19 (fun _ => 0)), (aJ ca q_1132 38 (fun _ => 0)), (aZ ca q_1133 2 (fun _ => 0)), (aI ca q_1135 10 (fun _ => 0)), (aZ ca q_1136 1024 (fun _ => 0)), (aI ca q_1137 64 (fun _ => 0)), (aI ca q_1138 80 (fun _ => 0)), (aI ca q_1139 4 (fun _ => 0)), (aI ca q_1140 240 (fun _ => 0)), (h0, .inr (11, [.int 0, .ref q_1124, .int 0, .int 0, .int 0, .int 0, .int 0, .int 0, .int 0, .int 0, .int 0, .int 0, .long 0, .int 0, .ref q_1125, .ref q_1126, .ref q_1127, .ref q_1128, .ref q_1129, .ref q_1130, .ref q_1131, .ref q_1132, .ref q_1133, .ref q_1134, .int 0, .int 0, .int 0, .int (-1), .int (-1), .int (-1), .ref q_1135, .int (-1), .int (-1), .ref q_1136, .int (-1), .int (-1), .ref q_1137, .int 0, .int 0, .ref q_1138, .ref q_1139, .int 0, .int 0, .ref q_1140, .int 0, .int 0, .int 0, .int 0])), (aI ca q_1126 89 u_1143), (aZ ca q_1134 2 u_1144)] H := hP
  have hD : va_D A [(aI ca q_1124 940 (fun _ => 0)), (aI ca q_1125 376 g_2044), (aI ca q_1127 752 (fun _ => 0)), (aI ca q_1128 360 (fun _ => 0)), (aI ca q_1129 45 (fun _ => 0)), (aJ ca q_1130 19 (fun _ => 0)), (aJ ca q_1131 19 (fun _ => 0)), (aJ ca q_1132 38 (fun _ => 0)), (aZ ca q_1133 2 (fun _ => 0)), (aI ca q_1135 10 (fun _ => 0)), (aZ ca q_1136 1024 (fun _ => 0)), (aI ca q_1137 64 (fun _ => 0)), (aI ca q_1138 80 (fun _ => 0)), (aI ca q_1139 4 (fun _ => 0)), (aI ca q_1140 240 (fun _ => 0)), (h0, .inr (11, [.int 0, .ref q_1124, .int 0, .int 0, .int 0, .int 0, .int 0, .int 0, .int 0, .int 0, .int 0, .int 0, .long 0, .int 0, .ref q_1125, .ref q_1126, .ref q_1127, .ref q_1128, .ref q_1129, .ref q_1130, .ref q_1131, .ref q_1132, .ref q_1133, .ref q_1134, .int 0, .int 0, .int 0, .int (-1), .int (-1), .int (-1), .ref q_1135, .int (-1), .int (-1), .ref q_1136, .int (-1), .int (-1), .ref q_1137, .int 0, .int 0, .ref q_1138, .ref q_1139, .int 0, .int 0, .ref q_1140, .int 0, .int 0, .int 0, .int 0])), (aI ca q_1126 89 u_1143), (aZ ca q_1134 2 u_1144)] := hD
  refine lv_iinc (v := 78) (lv' := [(1, .int 78), (0, .ref h0)]) hx hb dX12_init_202 hl (k := 0) rfl (by decide) (by decide) rfl (fun ls hl => ?_)
  refine lv_goto (tgt := 184) hx hb dX12_init_205 (by decide) ?_
  clear s_2031 s_2032 s_2033 s_2034 s_2035 s_2036 s_2037 s_2038 s_2039 s_2040 s_2041 s_2042 ex_2043 eg_2044
  refine lv_iload_n hx hb dX12_init_184 rfl (lv_at hl 0 rfl) ?_
  refine lv_bipush (v := 89) hx hb dX12_init_185 (by decide) ?_
  refine lv_icmp_ge (tgt := 208) hx hb dX12_init_187 (by decide) (fun c => absurd c (by decide)) (fun _ => ?_)
  refine lv_aload_n hx hb dX12_init_190 rfl (lv_at hl 1 rfl) ?_
  refine va_get (D := D) (ci := 11) (v := .ref q_1125) (C := RX12) (T := TX12) (N := 48) hx hb hts k6 hown hK.1 hP 15 rfl rfl 14 (by decide) k7 (fun _ h9 => h9) rfl dX12_init_191 ?_
  refine lv_iload_n hx hb dX12_init_194 rfl (lv_at hl 0 rfl) ?_
  refine lv_aload_n hx hb dX12_init_195 rfl (lv_at hl 1 rfl) ?_
  refine va_get (D := D) (ci := 11) (v := .ref q_1126) (C := RX12) (T := TX12) (N := 48) hx hb hts k6 hown hK.1 hP 15 rfl rfl 15 (by decide) k8 (fun _ h9 => h9) rfl dX12_init_196 ?_
  refine lv_iload_n hx hb dX12_init_199 rfl (lv_at hl 0 rfl) ?_
  refine va_iald hx hb hK.1 hP 16 0 rfl rfl (rg_in (⟨by decide, by decide⟩ : rg 78 78 (78 : Int32)) (by decide) (by decide)) dX12_init_200 ?_
  refine lv_topi (fun x_2058 ex_2058 => ?_)
  refine va_iast hx hb hK.1 hP hD hS 1 0 rfl rfl (rg_in (⟨by decide, by decide⟩ : rg 78 78 (78 : Int32)) (by decide) (by decide)) dX12_init_201 (fun H locs hP hD hS => ?_)
  obtain ⟨g_2059, eg_2059⟩ : ∃ y : Nat → Int32, y = upd g_2044 (78 : Int32).toNatClampNeg (x_2058 : Int32) := ⟨_, rfl⟩
  rw [← eg_2059] at hP hD
  have s_2061 : sg 79 376 0 0 g_2059 := sg_out (sg_w s_2046 (by decide) (by decide) (by decide) (by decide)) eg_2059 (⟨by decide, by decide⟩ : rg 78 78 (78 : Int32)) (by decide) (by decide)
  have s_2062 : sg 0 1 0 10 g_2059 := sg_out s_2047 eg_2059 (⟨by decide, by decide⟩ : rg 78 78 (78 : Int32)) (by decide) (by decide)
  have s_2063 : sg 1 2 0 4 g_2059 := sg_out s_2048 eg_2059 (⟨by decide, by decide⟩ : rg 78 78 (78 : Int32)) (by decide) (by decide)
  have s_2064 : sg 2 3 0 5 g_2059 := sg_out s_2049 eg_2059 (⟨by decide, by decide⟩ : rg 78 78 (78 : Int32)) (by decide) (by decide)
  have s_2065 : sg 3 4 3 3 g_2059 := sg_out s_2050 eg_2059 (⟨by decide, by decide⟩ : rg 78 78 (78 : Int32)) (by decide) (by decide)
  have s_2066 : sg 4 5 1 1 g_2059 := sg_out s_2051 eg_2059 (⟨by decide, by decide⟩ : rg 78 78 (78 : Int32)) (by decide) (by decide)
  have s_2067 : sg 35 36 0 1023 g_2059 := sg_out s_2052 eg_2059 (⟨by decide, by decide⟩ : rg 78 78 (78 : Int32)) (by decide) (by decide)
  have s_2068 : sg 44 45 0 3 g_2059 := sg_out s_2053 eg_2059 (⟨by decide, by decide⟩ : rg 78 78 (78 : Int32)) (by decide) (by decide)
  have s_2069 : sg 45 46 0 3 g_2059 := sg_out s_2054 eg_2059 (⟨by decide, by decide⟩ : rg 78 78 (78 : Int32)) (by decide) (by decide)
  have s_2070 : sg 46 47 0 3 g_2059 := sg_out s_2055 eg_2059 (⟨by decide, by decide⟩ : rg 78 78 (78 : Int32)) (by decide) (by decide)
  have s_2071 : sg 47 48 0 3 g_2059 := sg_out s_2056 eg_2059 (⟨by decide, by decide⟩ : rg 78 78 (78 : Int32)) (by decide) (by decide)
  have s_2072 : sg 48 49 0 3 g_2059 := sg_out s_2057 eg_2059 (⟨by decide, by decide⟩ : rg 78 78 (78 : Int32)) (by decide) (by decide)
  have hP : va_P D vwCl [(aI ca q_1124 940 (fun _ => 0)), (aI ca q_1125 376 g_2059), (aI ca q_1127 752 (fun _ => 0)), (aI ca q_1128 360 (fun _ => 0)), (aI ca q_1129 45 (fun _ => 0)), (aJ ca q_1130 19 (fun _ => 0)), (aJ ca q_1131 19 (fun _ => 0)), (aJ ca q_1132 38 (fun _ => 0)), (aZ ca q_1133 2 (fun _ => 0)), (aI ca q_1135 10 (fun _ => 0)), (aZ ca q_1136 1024 (fun _ => 0)), (aI ca q_1137 64 (fun _ => 0)), (aI ca q_1138 80 (fun _ => 0)), (aI ca q_1139 4 (fun _ => 0)), (aI ca q_1140 240 (fun _ => 0)), (h0, .inr (11, [.int 0, .ref q_1124, .int 0, .int 0, .int 0, .int 0, .int 0, .int 0, .int 0, .int 0, .int 0, .int 0, .long 0, .int 0, .ref q_1125, .ref q_1126, .ref q_1127, .ref q_1128, .ref q_1129, .ref q_1130, .ref q_1131, .ref q_1132, .ref q_1133, .ref q_1134, .int 0, .int 0, .int 0, .int (-1), .int (-1), .int (-1), .ref q_1135, .int (-1), .int (-1), .ref q_1136, .int (-1), .int (-1), .ref q_1137, .int 0, .int 0, .ref q_1138, .ref q_1139, .int 0, .int 0, .ref q_1140, .int 0, .int 0, .int 0, .int 0])), (aI ca q_1126 89 u_1143), (aZ ca q_1134 2 u_1144)] H := hP
  have hD : va_D A [(aI ca q_1124 940 (fun _ => 0)), (aI ca q_1125 376 g_2059), (aI ca q_1127 752 (fun _ => 0)), (aI ca q_1128 360 (fun _ => 0)), (aI ca q_1129 45 (fun _ => 0)), (aJ ca q_1130 19 (fun _ => 0)), (aJ ca q_1131 19 (fun _ => 0)), (aJ ca q_1132 38 (fun _ => 0)), (aZ ca q_1133 2 (fun _ => 0)), (aI ca q_1135 10 (fun _ => 0)), (aZ ca q_1136 1024 (fun _ => 0)), (aI ca q_1137 64 (fun _ => 0)), (aI ca q_1138 80 (fun _ => 0)), (aI ca q_1139 4 (fun _ => 0)), (aI ca q_1140 240 (fun _ => 0)), (h0, .inr (11, [.int 0, .ref q_1124, .int 0, .int 0, .int 0, .int 0, .int 0, .int 0, .int 0, .int 0, .int 0, .int 0, .long 0, .int 0, .ref q_1125, .ref q_1126, .ref q_1127, .ref q_1128, .ref q_1129, .ref q_1130, .ref q_1131, .ref q_1132, .ref q_1133, .ref q_1134, .int 0, .int 0, .int 0, .int (-1), .int (-1), .int (-1), .ref q_1135, .int (-1), .int (-1), .ref q_1136, .int (-1), .int (-1), .ref q_1137, .int 0, .int 0, .ref q_1138, .ref q_1139, .int 0, .int 0, .ref q_1140, .int 0, .int 0, .int 0, .int 0])), (aI ca q_1126 89 u_1143), (aZ ca q_1134 2 u_1144)] := hD
  refine lv_iinc (v := 79) (lv' := [(1, .int 79), (0, .ref h0)]) hx hb dX12_init_202 hl (k := 0) rfl (by decide) (by decide) rfl (fun ls hl => ?_)
  refine lv_goto (tgt := 184) hx hb dX12_init_205 (by decide) ?_
  clear s_2046 s_2047 s_2048 s_2049 s_2050 s_2051 s_2052 s_2053 s_2054 s_2055 s_2056 s_2057 ex_2058 eg_2059
  refine lv_iload_n hx hb dX12_init_184 rfl (lv_at hl 0 rfl) ?_
  refine lv_bipush (v := 89) hx hb dX12_init_185 (by decide) ?_
  refine lv_icmp_ge (tgt := 208) hx hb dX12_init_187 (by decide) (fun c => absurd c (by decide)) (fun _ => ?_)
  refine lv_aload_n hx hb dX12_init_190 rfl (lv_at hl 1 rfl) ?_
  refine va_get (D := D) (ci := 11) (v := .ref q_1125) (C := RX12) (T := TX12) (N := 48) hx hb hts k6 hown hK.1 hP 15 rfl rfl 14 (by decide) k7 (fun _ h9 => h9) rfl dX12_init_191 ?_
  refine lv_iload_n hx hb dX12_init_194 rfl (lv_at hl 0 rfl) ?_
  refine lv_aload_n hx hb dX12_init_195 rfl (lv_at hl 1 rfl) ?_
  refine va_get (D := D) (ci := 11) (v := .ref q_1126) (C := RX12) (T := TX12) (N := 48) hx hb hts k6 hown hK.1 hP 15 rfl rfl 15 (by decide) k8 (fun _ h9 => h9) rfl dX12_init_196 ?_
  refine lv_iload_n hx hb dX12_init_199 rfl (lv_at hl 0 rfl) ?_
  refine va_iald hx hb hK.1 hP 16 0 rfl rfl (rg_in (⟨by decide, by decide⟩ : rg 79 79 (79 : Int32)) (by decide) (by decide)) dX12_init_200 ?_
  refine lv_topi (fun x_2073 ex_2073 => ?_)
  refine va_iast hx hb hK.1 hP hD hS 1 0 rfl rfl (rg_in (⟨by decide, by decide⟩ : rg 79 79 (79 : Int32)) (by decide) (by decide)) dX12_init_201 (fun H locs hP hD hS => ?_)
  obtain ⟨g_2074, eg_2074⟩ : ∃ y : Nat → Int32, y = upd g_2059 (79 : Int32).toNatClampNeg (x_2073 : Int32) := ⟨_, rfl⟩
  rw [← eg_2074] at hP hD
  have s_2076 : sg 80 376 0 0 g_2074 := sg_out (sg_w s_2061 (by decide) (by decide) (by decide) (by decide)) eg_2074 (⟨by decide, by decide⟩ : rg 79 79 (79 : Int32)) (by decide) (by decide)
  have s_2077 : sg 0 1 0 10 g_2074 := sg_out s_2062 eg_2074 (⟨by decide, by decide⟩ : rg 79 79 (79 : Int32)) (by decide) (by decide)
  have s_2078 : sg 1 2 0 4 g_2074 := sg_out s_2063 eg_2074 (⟨by decide, by decide⟩ : rg 79 79 (79 : Int32)) (by decide) (by decide)
  have s_2079 : sg 2 3 0 5 g_2074 := sg_out s_2064 eg_2074 (⟨by decide, by decide⟩ : rg 79 79 (79 : Int32)) (by decide) (by decide)
  have s_2080 : sg 3 4 3 3 g_2074 := sg_out s_2065 eg_2074 (⟨by decide, by decide⟩ : rg 79 79 (79 : Int32)) (by decide) (by decide)
  have s_2081 : sg 4 5 1 1 g_2074 := sg_out s_2066 eg_2074 (⟨by decide, by decide⟩ : rg 79 79 (79 : Int32)) (by decide) (by decide)
  have s_2082 : sg 35 36 0 1023 g_2074 := sg_out s_2067 eg_2074 (⟨by decide, by decide⟩ : rg 79 79 (79 : Int32)) (by decide) (by decide)
  have s_2083 : sg 44 45 0 3 g_2074 := sg_out s_2068 eg_2074 (⟨by decide, by decide⟩ : rg 79 79 (79 : Int32)) (by decide) (by decide)
  have s_2084 : sg 45 46 0 3 g_2074 := sg_out s_2069 eg_2074 (⟨by decide, by decide⟩ : rg 79 79 (79 : Int32)) (by decide) (by decide)
  have s_2085 : sg 46 47 0 3 g_2074 := sg_out s_2070 eg_2074 (⟨by decide, by decide⟩ : rg 79 79 (79 : Int32)) (by decide) (by decide)
  have s_2086 : sg 47 48 0 3 g_2074 := sg_out s_2071 eg_2074 (⟨by decide, by decide⟩ : rg 79 79 (79 : Int32)) (by decide) (by decide)
  have s_2087 : sg 48 49 0 3 g_2074 := sg_out s_2072 eg_2074 (⟨by decide, by decide⟩ : rg 79 79 (79 : Int32)) (by decide) (by decide)
  have hP : va_P D vwCl [(aI ca q_1124 940 (fun _ => 0)), (aI ca q_1125 376 g_2074), (aI ca q_1127 752 (fun _ => 0)), (aI ca q_1128 360 (fun _ => 0)), (aI ca q_1129 45 (fun _ => 0)), (aJ ca q_1130 19 (fun _ => 0)), (aJ ca q_1131 19 (fun _ => 0)), (aJ ca q_1132 38 (fun _ => 0)), (aZ ca q_1133 2 (fun _ => 0)), (aI ca q_1135 10 (fun _ => 0)), (aZ ca q_1136 1024 (fun _ => 0)), (aI ca q_1137 64 (fun _ => 0)), (aI ca q_1138 80 (fun _ => 0)), (aI ca q_1139 4 (fun _ => 0)), (aI ca q_1140 240 (fun _ => 0)), (h0, .inr (11, [.int 0, .ref q_1124, .int 0, .int 0, .int 0, .int 0, .int 0, .int 0, .int 0, .int 0, .int 0, .int 0, .long 0, .int 0, .ref q_1125, .ref q_1126, .ref q_1127, .ref q_1128, .ref q_1129, .ref q_1130, .ref q_1131, .ref q_1132, .ref q_1133, .ref q_1134, .int 0, .int 0, .int 0, .int (-1), .int (-1), .int (-1), .ref q_1135, .int (-1), .int (-1), .ref q_1136, .int (-1), .int (-1), .ref q_1137, .int 0, .int 0, .ref q_1138, .ref q_1139, .int 0, .int 0, .ref q_1140, .int 0, .int 0, .int 0, .int 0])), (aI ca q_1126 89 u_1143), (aZ ca q_1134 2 u_1144)] H := hP
  have hD : va_D A [(aI ca q_1124 940 (fun _ => 0)), (aI ca q_1125 376 g_2074), (aI ca q_1127 752 (fun _ => 0)), (aI ca q_1128 360 (fun _ => 0)), (aI ca q_1129 45 (fun _ => 0)), (aJ ca q_1130 19 (fun _ => 0)), (aJ ca q_1131 19 (fun _ => 0)), (aJ ca q_1132 38 (fun _ => 0)), (aZ ca q_1133 2 (fun _ => 0)), (aI ca q_1135 10 (fun _ => 0)), (aZ ca q_1136 1024 (fun _ => 0)), (aI ca q_1137 64 (fun _ => 0)), (aI ca q_1138 80 (fun _ => 0)), (aI ca q_1139 4 (fun _ => 0)), (aI ca q_1140 240 (fun _ => 0)), (h0, .inr (11, [.int 0, .ref q_1124, .int 0, .int 0, .int 0, .int 0, .int 0, .int 0, .int 0, .int 0, .int 0, .int 0, .long 0, .int 0, .ref q_1125, .ref q_1126, .ref q_1127, .ref q_1128, .ref q_1129, .ref q_1130, .ref q_1131, .ref q_1132, .ref q_1133, .ref q_1134, .int 0, .int 0, .int 0, .int (-1), .int (-1), .int (-1), .ref q_1135, .int (-1), .int (-1), .ref q_1136, .int (-1), .int (-1), .ref q_1137, .int 0, .int 0, .ref q_1138, .ref q_1139, .int 0, .int 0, .ref q_1140, .int 0, .int 0, .int 0, .int 0])), (aI ca q_1126 89 u_1143), (aZ ca q_1134 2 u_1144)] := hD
  refine lv_iinc (v := 80) (lv' := [(1, .int 80), (0, .ref h0)]) hx hb dX12_init_202 hl (k := 0) rfl (by decide) (by decide) rfl (fun ls hl => ?_)
  refine lv_goto (tgt := 184) hx hb dX12_init_205 (by decide) ?_
  clear s_2061 s_2062 s_2063 s_2064 s_2065 s_2066 s_2067 s_2068 s_2069 s_2070 s_2071 s_2072 ex_2073 eg_2074
  refine lv_iload_n hx hb dX12_init_184 rfl (lv_at hl 0 rfl) ?_
  refine lv_bipush (v := 89) hx hb dX12_init_185 (by decide) ?_
  refine lv_icmp_ge (tgt := 208) hx hb dX12_init_187 (by decide) (fun c => absurd c (by decide)) (fun _ => ?_)
  refine lv_aload_n hx hb dX12_init_190 rfl (lv_at hl 1 rfl) ?_
  refine va_get (D := D) (ci := 11) (v := .ref q_1125) (C := RX12) (T := TX12) (N := 48) hx hb hts k6 hown hK.1 hP 15 rfl rfl 14 (by decide) k7 (fun _ h9 => h9) rfl dX12_init_191 ?_
  refine lv_iload_n hx hb dX12_init_194 rfl (lv_at hl 0 rfl) ?_
  refine lv_aload_n hx hb dX12_init_195 rfl (lv_at hl 1 rfl) ?_
  refine va_get (D := D) (ci := 11) (v := .ref q_1126) (C := RX12) (T := TX12) (N := 48) hx hb hts k6 hown hK.1 hP 15 rfl rfl 15 (by decide) k8 (fun _ h9 => h9) rfl dX12_init_196 ?_
  refine lv_iload_n hx hb dX12_init_199 rfl (lv_at hl 0 rfl) ?_
  refine va_iald hx hb hK.1 hP 16 0 rfl rfl (rg_in (⟨by decide, by decide⟩ : rg 80 80 (80 : Int32)) (by decide) (by decide)) dX12_init_200 ?_
  refine lv_topi (fun x_2088 ex_2088 => ?_)
  refine va_iast hx hb hK.1 hP hD hS 1 0 rfl rfl (rg_in (⟨by decide, by decide⟩ : rg 80 80 (80 : Int32)) (by decide) (by decide)) dX12_init_201 (fun H locs hP hD hS => ?_)
  obtain ⟨g_2089, eg_2089⟩ : ∃ y : Nat → Int32, y = upd g_2074 (80 : Int32).toNatClampNeg (x_2088 : Int32) := ⟨_, rfl⟩
  rw [← eg_2089] at hP hD
  have s_2091 : sg 81 376 0 0 g_2089 := sg_out (sg_w s_2076 (by decide) (by decide) (by decide) (by decide)) eg_2089 (⟨by decide, by decide⟩ : rg 80 80 (80 : Int32)) (by decide) (by decide)
  have s_2092 : sg 0 1 0 10 g_2089 := sg_out s_2077 eg_2089 (⟨by decide, by decide⟩ : rg 80 80 (80 : Int32)) (by decide) (by decide)
  have s_2093 : sg 1 2 0 4 g_2089 := sg_out s_2078 eg_2089 (⟨by decide, by decide⟩ : rg 80 80 (80 : Int32)) (by decide) (by decide)
  have s_2094 : sg 2 3 0 5 g_2089 := sg_out s_2079 eg_2089 (⟨by decide, by decide⟩ : rg 80 80 (80 : Int32)) (by decide) (by decide)
  have s_2095 : sg 3 4 3 3 g_2089 := sg_out s_2080 eg_2089 (⟨by decide, by decide⟩ : rg 80 80 (80 : Int32)) (by decide) (by decide)
  have s_2096 : sg 4 5 1 1 g_2089 := sg_out s_2081 eg_2089 (⟨by decide, by decide⟩ : rg 80 80 (80 : Int32)) (by decide) (by decide)
  have s_2097 : sg 35 36 0 1023 g_2089 := sg_out s_2082 eg_2089 (⟨by decide, by decide⟩ : rg 80 80 (80 : Int32)) (by decide) (by decide)
  have s_2098 : sg 44 45 0 3 g_2089 := sg_out s_2083 eg_2089 (⟨by decide, by decide⟩ : rg 80 80 (80 : Int32)) (by decide) (by decide)
  have s_2099 : sg 45 46 0 3 g_2089 := sg_out s_2084 eg_2089 (⟨by decide, by decide⟩ : rg 80 80 (80 : Int32)) (by decide) (by decide)
  have s_2100 : sg 46 47 0 3 g_2089 := sg_out s_2085 eg_2089 (⟨by decide, by decide⟩ : rg 80 80 (80 : Int32)) (by decide) (by decide)
  have s_2101 : sg 47 48 0 3 g_2089 := sg_out s_2086 eg_2089 (⟨by decide, by decide⟩ : rg 80 80 (80 : Int32)) (by decide) (by decide)
  have s_2102 : sg 48 49 0 3 g_2089 := sg_out s_2087 eg_2089 (⟨by decide, by decide⟩ : rg 80 80 (80 : Int32)) (by decide) (by decide)
  have hP : va_P D vwCl [(aI ca q_1124 940 (fun _ => 0)), (aI ca q_1125 376 g_2089), (aI ca q_1127 752 (fun _ => 0)), (aI ca q_1128 360 (fun _ => 0)), (aI ca q_1129 45 (fun _ => 0)), (aJ ca q_1130 19 (fun _ => 0)), (aJ ca q_1131 19 (fun _ => 0)), (aJ ca q_1132 38 (fun _ => 0)), (aZ ca q_1133 2 (fun _ => 0)), (aI ca q_1135 10 (fun _ => 0)), (aZ ca q_1136 1024 (fun _ => 0)), (aI ca q_1137 64 (fun _ => 0)), (aI ca q_1138 80 (fun _ => 0)), (aI ca q_1139 4 (fun _ => 0)), (aI ca q_1140 240 (fun _ => 0)), (h0, .inr (11, [.int 0, .ref q_1124, .int 0, .int 0, .int 0, .int 0, .int 0, .int 0, .int 0, .int 0, .int 0, .int 0, .long 0, .int 0, .ref q_1125, .ref q_1126, .ref q_1127, .ref q_1128, .ref q_1129, .ref q_1130, .ref q_1131, .ref q_1132, .ref q_1133, .ref q_1134, .int 0, .int 0, .int 0, .int (-1), .int (-1), .int (-1), .ref q_1135, .int (-1), .int (-1), .ref q_1136, .int (-1), .int (-1), .ref q_1137, .int 0, .int 0, .ref q_1138, .ref q_1139, .int 0, .int 0, .ref q_1140, .int 0, .int 0, .int 0, .int 0])), (aI ca q_1126 89 u_1143), (aZ ca q_1134 2 u_1144)] H := hP
  have hD : va_D A [(aI ca q_1124 940 (fun _ => 0)), (aI ca q_1125 376 g_2089), (aI ca q_1127 752 (fun _ => 0)), (aI ca q_1128 360 (fun _ => 0)), (aI ca q_1129 45 (fun _ => 0)), (aJ ca q_1130 19 (fun _ => 0)), (aJ ca q_1131 19 (fun _ => 0)), (aJ ca q_1132 38 (fun _ => 0)), (aZ ca q_1133 2 (fun _ => 0)), (aI ca q_1135 10 (fun _ => 0)), (aZ ca q_1136 1024 (fun _ => 0)), (aI ca q_1137 64 (fun _ => 0)), (aI ca q_1138 80 (fun _ => 0)), (aI ca q_1139 4 (fun _ => 0)), (aI ca q_1140 240 (fun _ => 0)), (h0, .inr (11, [.int 0, .ref q_1124, .int 0, .int 0, .int 0, .int 0, .int 0, .int 0, .int 0, .int 0, .int 0, .int 0, .long 0, .int 0, .ref q_1125, .ref q_1126, .ref q_1127, .ref q_1128, .ref q_1129, .ref q_1130, .ref q_1131, .ref q_1132, .ref q_1133, .ref q_1134, .int 0, .int 0, .int 0, .int (-1), .int (-1), .int (-1), .ref q_1135, .int (-1), .int (-1), .ref q_1136, .int (-1), .int (-1), .ref q_1137, .int 0, .int 0, .ref q_1138, .ref q_1139, .int 0, .int 0, .ref q_1140, .int 0, .int 0, .int 0, .int 0])), (aI ca q_1126 89 u_1143), (aZ ca q_1134 2 u_1144)] := hD
  refine lv_iinc (v := 81) (lv' := [(1, .int 81), (0, .ref h0)]) hx hb dX12_init_202 hl (k := 0) rfl (by decide) (by decide) rfl (fun ls hl => ?_)
  refine lv_goto (tgt := 184) hx hb dX12_init_205 (by decide) ?_
  clear s_2076 s_2077 s_2078 s_2079 s_2080 s_2081 s_2082 s_2083 s_2084 s_2085 s_2086 s_2087 ex_2088 eg_2089
  refine lv_iload_n hx hb dX12_init_184 rfl (lv_at hl 0 rfl) ?_
  refine lv_bipush (v := 89) hx hb dX12_init_185 (by decide) ?_
  refine lv_icmp_ge (tgt := 208) hx hb dX12_init_187 (by decide) (fun c => absurd c (by decide)) (fun _ => ?_)
  refine lv_aload_n hx hb dX12_init_190 rfl (lv_at hl 1 rfl) ?_
  refine va_get (D := D) (ci := 11) (v := .ref q_1125) (C := RX12) (T := TX12) (N := 48) hx hb hts k6 hown hK.1 hP 15 rfl rfl 14 (by decide) k7 (fun _ h9 => h9) rfl dX12_init_191 ?_
  refine lv_iload_n hx hb dX12_init_194 rfl (lv_at hl 0 rfl) ?_
  refine lv_aload_n hx hb dX12_init_195 rfl (lv_at hl 1 rfl) ?_
  refine va_get (D := D) (ci := 11) (v := .ref q_1126) (C := RX12) (T := TX12) (N := 48) hx hb hts k6 hown hK.1 hP 15 rfl rfl 15 (by decide) k8 (fun _ h9 => h9) rfl dX12_init_196 ?_
  refine lv_iload_n hx hb dX12_init_199 rfl (lv_at hl 0 rfl) ?_
  refine va_iald hx hb hK.1 hP 16 0 rfl rfl (rg_in (⟨by decide, by decide⟩ : rg 81 81 (81 : Int32)) (by decide) (by decide)) dX12_init_200 ?_
  refine lv_topi (fun x_2103 ex_2103 => ?_)
  refine va_iast hx hb hK.1 hP hD hS 1 0 rfl rfl (rg_in (⟨by decide, by decide⟩ : rg 81 81 (81 : Int32)) (by decide) (by decide)) dX12_init_201 (fun H locs hP hD hS => ?_)
  obtain ⟨g_2104, eg_2104⟩ : ∃ y : Nat → Int32, y = upd g_2089 (81 : Int32).toNatClampNeg (x_2103 : Int32) := ⟨_, rfl⟩
  rw [← eg_2104] at hP hD
  have s_2106 : sg 82 376 0 0 g_2104 := sg_out (sg_w s_2091 (by decide) (by decide) (by decide) (by decide)) eg_2104 (⟨by decide, by decide⟩ : rg 81 81 (81 : Int32)) (by decide) (by decide)
  have s_2107 : sg 0 1 0 10 g_2104 := sg_out s_2092 eg_2104 (⟨by decide, by decide⟩ : rg 81 81 (81 : Int32)) (by decide) (by decide)
  have s_2108 : sg 1 2 0 4 g_2104 := sg_out s_2093 eg_2104 (⟨by decide, by decide⟩ : rg 81 81 (81 : Int32)) (by decide) (by decide)
  have s_2109 : sg 2 3 0 5 g_2104 := sg_out s_2094 eg_2104 (⟨by decide, by decide⟩ : rg 81 81 (81 : Int32)) (by decide) (by decide)
  have s_2110 : sg 3 4 3 3 g_2104 := sg_out s_2095 eg_2104 (⟨by decide, by decide⟩ : rg 81 81 (81 : Int32)) (by decide) (by decide)
  have s_2111 : sg 4 5 1 1 g_2104 := sg_out s_2096 eg_2104 (⟨by decide, by decide⟩ : rg 81 81 (81 : Int32)) (by decide) (by decide)
  have s_2112 : sg 35 36 0 1023 g_2104 := sg_out s_2097 eg_2104 (⟨by decide, by decide⟩ : rg 81 81 (81 : Int32)) (by decide) (by decide)
  have s_2113 : sg 44 45 0 3 g_2104 := sg_out s_2098 eg_2104 (⟨by decide, by decide⟩ : rg 81 81 (81 : Int32)) (by decide) (by decide)
  have s_2114 : sg 45 46 0 3 g_2104 := sg_out s_2099 eg_2104 (⟨by decide, by decide⟩ : rg 81 81 (81 : Int32)) (by decide) (by decide)
  have s_2115 : sg 46 47 0 3 g_2104 := sg_out s_2100 eg_2104 (⟨by decide, by decide⟩ : rg 81 81 (81 : Int32)) (by decide) (by decide)
  have s_2116 : sg 47 48 0 3 g_2104 := sg_out s_2101 eg_2104 (⟨by decide, by decide⟩ : rg 81 81 (81 : Int32)) (by decide) (by decide)
  have s_2117 : sg 48 49 0 3 g_2104 := sg_out s_2102 eg_2104 (⟨by decide, by decide⟩ : rg 81 81 (81 : Int32)) (by decide) (by decide)
  have hP : va_P D vwCl [(aI ca q_1124 940 (fun _ => 0)), (aI ca q_1125 376 g_2104), (aI ca q_1127 752 (fun _ => 0)), (aI ca q_1128 360 (fun _ => 0)), (aI ca q_1129 45 (fun _ => 0)), (aJ ca q_1130 19 (fun _ => 0)), (aJ ca q_1131 19 (fun _ => 0)), (aJ ca q_1132 38 (fun _ => 0)), (aZ ca q_1133 2 (fun _ => 0)), (aI ca q_1135 10 (fun _ => 0)), (aZ ca q_1136 1024 (fun _ => 0)), (aI ca q_1137 64 (fun _ => 0)), (aI ca q_1138 80 (fun _ => 0)), (aI ca q_1139 4 (fun _ => 0)), (aI ca q_1140 240 (fun _ => 0)), (h0, .inr (11, [.int 0, .ref q_1124, .int 0, .int 0, .int 0, .int 0, .int 0, .int 0, .int 0, .int 0, .int 0, .int 0, .long 0, .int 0, .ref q_1125, .ref q_1126, .ref q_1127, .ref q_1128, .ref q_1129, .ref q_1130, .ref q_1131, .ref q_1132, .ref q_1133, .ref q_1134, .int 0, .int 0, .int 0, .int (-1), .int (-1), .int (-1), .ref q_1135, .int (-1), .int (-1), .ref q_1136, .int (-1), .int (-1), .ref q_1137, .int 0, .int 0, .ref q_1138, .ref q_1139, .int 0, .int 0, .ref q_1140, .int 0, .int 0, .int 0, .int 0])), (aI ca q_1126 89 u_1143), (aZ ca q_1134 2 u_1144)] H := hP
  have hD : va_D A [(aI ca q_1124 940 (fun _ => 0)), (aI ca q_1125 376 g_2104), (aI ca q_1127 752 (fun _ => 0)), (aI ca q_1128 360 (fun _ => 0)), (aI ca q_1129 45 (fun _ => 0)), (aJ ca q_1130 19 (fun _ => 0)), (aJ ca q_1131 19 (fun _ => 0)), (aJ ca q_1132 38 (fun _ => 0)), (aZ ca q_1133 2 (fun _ => 0)), (aI ca q_1135 10 (fun _ => 0)), (aZ ca q_1136 1024 (fun _ => 0)), (aI ca q_1137 64 (fun _ => 0)), (aI ca q_1138 80 (fun _ => 0)), (aI ca q_1139 4 (fun _ => 0)), (aI ca q_1140 240 (fun _ => 0)), (h0, .inr (11, [.int 0, .ref q_1124, .int 0, .int 0, .int 0, .int 0, .int 0, .int 0, .int 0, .int 0, .int 0, .int 0, .long 0, .int 0, .ref q_1125, .ref q_1126, .ref q_1127, .ref q_1128, .ref q_1129, .ref q_1130, .ref q_1131, .ref q_1132, .ref q_1133, .ref q_1134, .int 0, .int 0, .int 0, .int (-1), .int (-1), .int (-1), .ref q_1135, .int (-1), .int (-1), .ref q_1136, .int (-1), .int (-1), .ref q_1137, .int 0, .int 0, .ref q_1138, .ref q_1139, .int 0, .int 0, .ref q_1140, .int 0, .int 0, .int 0, .int 0])), (aI ca q_1126 89 u_1143), (aZ ca q_1134 2 u_1144)] := hD
  refine lv_iinc (v := 82) (lv' := [(1, .int 82), (0, .ref h0)]) hx hb dX12_init_202 hl (k := 0) rfl (by decide) (by decide) rfl (fun ls hl => ?_)
  refine lv_goto (tgt := 184) hx hb dX12_init_205 (by decide) ?_
  clear s_2091 s_2092 s_2093 s_2094 s_2095 s_2096 s_2097 s_2098 s_2099 s_2100 s_2101 s_2102 ex_2103 eg_2104
  refine lv_iload_n hx hb dX12_init_184 rfl (lv_at hl 0 rfl) ?_
  refine lv_bipush (v := 89) hx hb dX12_init_185 (by decide) ?_
  refine lv_icmp_ge (tgt := 208) hx hb dX12_init_187 (by decide) (fun c => absurd c (by decide)) (fun _ => ?_)
  refine lv_aload_n hx hb dX12_init_190 rfl (lv_at hl 1 rfl) ?_
  refine va_get (D := D) (ci := 11) (v := .ref q_1125) (C := RX12) (T := TX12) (N := 48) hx hb hts k6 hown hK.1 hP 15 rfl rfl 14 (by decide) k7 (fun _ h9 => h9) rfl dX12_init_191 ?_
  refine lv_iload_n hx hb dX12_init_194 rfl (lv_at hl 0 rfl) ?_
  refine lv_aload_n hx hb dX12_init_195 rfl (lv_at hl 1 rfl) ?_
  refine va_get (D := D) (ci := 11) (v := .ref q_1126) (C := RX12) (T := TX12) (N := 48) hx hb hts k6 hown hK.1 hP 15 rfl rfl 15 (by decide) k8 (fun _ h9 => h9) rfl dX12_init_196 ?_
  refine lv_iload_n hx hb dX12_init_199 rfl (lv_at hl 0 rfl) ?_
  refine va_iald hx hb hK.1 hP 16 0 rfl rfl (rg_in (⟨by decide, by decide⟩ : rg 82 82 (82 : Int32)) (by decide) (by decide)) dX12_init_200 ?_
  refine lv_topi (fun x_2118 ex_2118 => ?_)
  refine va_iast hx hb hK.1 hP hD hS 1 0 rfl rfl (rg_in (⟨by decide, by decide⟩ : rg 82 82 (82 : Int32)) (by decide) (by decide)) dX12_init_201 (fun H locs hP hD hS => ?_)
  obtain ⟨g_2119, eg_2119⟩ : ∃ y : Nat → Int32, y = upd g_2104 (82 : Int32).toNatClampNeg (x_2118 : Int32) := ⟨_, rfl⟩
  rw [← eg_2119] at hP hD
  have s_2121 : sg 83 376 0 0 g_2119 := sg_out (sg_w s_2106 (by decide) (by decide) (by decide) (by decide)) eg_2119 (⟨by decide, by decide⟩ : rg 82 82 (82 : Int32)) (by decide) (by decide)
  have s_2122 : sg 0 1 0 10 g_2119 := sg_out s_2107 eg_2119 (⟨by decide, by decide⟩ : rg 82 82 (82 : Int32)) (by decide) (by decide)
  have s_2123 : sg 1 2 0 4 g_2119 := sg_out s_2108 eg_2119 (⟨by decide, by decide⟩ : rg 82 82 (82 : Int32)) (by decide) (by decide)
  have s_2124 : sg 2 3 0 5 g_2119 := sg_out s_2109 eg_2119 (⟨by decide, by decide⟩ : rg 82 82 (82 : Int32)) (by decide) (by decide)
  have s_2125 : sg 3 4 3 3 g_2119 := sg_out s_2110 eg_2119 (⟨by decide, by decide⟩ : rg 82 82 (82 : Int32)) (by decide) (by decide)
  have s_2126 : sg 4 5 1 1 g_2119 := sg_out s_2111 eg_2119 (⟨by decide, by decide⟩ : rg 82 82 (82 : Int32)) (by decide) (by decide)
  have s_2127 : sg 35 36 0 1023 g_2119 := sg_out s_2112 eg_2119 (⟨by decide, by decide⟩ : rg 82 82 (82 : Int32)) (by decide) (by decide)
  have s_2128 : sg 44 45 0 3 g_2119 := sg_out s_2113 eg_2119 (⟨by decide, by decide⟩ : rg 82 82 (82 : Int32)) (by decide) (by decide)
  have s_2129 : sg 45 46 0 3 g_2119 := sg_out s_2114 eg_2119 (⟨by decide, by decide⟩ : rg 82 82 (82 : Int32)) (by decide) (by decide)
  have s_2130 : sg 46 47 0 3 g_2119 := sg_out s_2115 eg_2119 (⟨by decide, by decide⟩ : rg 82 82 (82 : Int32)) (by decide) (by decide)
  have s_2131 : sg 47 48 0 3 g_2119 := sg_out s_2116 eg_2119 (⟨by decide, by decide⟩ : rg 82 82 (82 : Int32)) (by decide) (by decide)
  have s_2132 : sg 48 49 0 3 g_2119 := sg_out s_2117 eg_2119 (⟨by decide, by decide⟩ : rg 82 82 (82 : Int32)) (by decide) (by decide)
  have hP : va_P D vwCl [(aI ca q_1124 940 (fun _ => 0)), (aI ca q_1125 376 g_2119), (aI ca q_1127 752 (fun _ => 0)), (aI ca q_1128 360 (fun _ => 0)), (aI ca q_1129 45 (fun _ => 0)), (aJ ca q_1130 19 (fun _ => 0)), (aJ ca q_1131 19 (fun _ => 0)), (aJ ca q_1132 38 (fun _ => 0)), (aZ ca q_1133 2 (fun _ => 0)), (aI ca q_1135 10 (fun _ => 0)), (aZ ca q_1136 1024 (fun _ => 0)), (aI ca q_1137 64 (fun _ => 0)), (aI ca q_1138 80 (fun _ => 0)), (aI ca q_1139 4 (fun _ => 0)), (aI ca q_1140 240 (fun _ => 0)), (h0, .inr (11, [.int 0, .ref q_1124, .int 0, .int 0, .int 0, .int 0, .int 0, .int 0, .int 0, .int 0, .int 0, .int 0, .long 0, .int 0, .ref q_1125, .ref q_1126, .ref q_1127, .ref q_1128, .ref q_1129, .ref q_1130, .ref q_1131, .ref q_1132, .ref q_1133, .ref q_1134, .int 0, .int 0, .int 0, .int (-1), .int (-1), .int (-1), .ref q_1135, .int (-1), .int (-1), .ref q_1136, .int (-1), .int (-1), .ref q_1137, .int 0, .int 0, .ref q_1138, .ref q_1139, .int 0, .int 0, .ref q_1140, .int 0, .int 0, .int 0, .int 0])), (aI ca q_1126 89 u_1143), (aZ ca q_1134 2 u_1144)] H := hP
  have hD : va_D A [(aI ca q_1124 940 (fun _ => 0)), (aI ca q_1125 376 g_2119), (aI ca q_1127 752 (fun _ => 0)), (aI ca q_1128 360 (fun _ => 0)), (aI ca q_1129 45 (fun _ => 0)), (aJ ca q_1130 19 (fun _ => 0)), (aJ ca q_1131 19 (fun _ => 0)), (aJ ca q_1132 38 (fun _ => 0)), (aZ ca q_1133 2 (fun _ => 0)), (aI ca q_1135 10 (fun _ => 0)), (aZ ca q_1136 1024 (fun _ => 0)), (aI ca q_1137 64 (fun _ => 0)), (aI ca q_1138 80 (fun _ => 0)), (aI ca q_1139 4 (fun _ => 0)), (aI ca q_1140 240 (fun _ => 0)), (h0, .inr (11, [.int 0, .ref q_1124, .int 0, .int 0, .int 0, .int 0, .int 0, .int 0, .int 0, .int 0, .int 0, .int 0, .long 0, .int 0, .ref q_1125, .ref q_1126, .ref q_1127, .ref q_1128, .ref q_1129, .ref q_1130, .ref q_1131, .ref q_1132, .ref q_1133, .ref q_1134, .int 0, .int 0, .int 0, .int (-1), .int (-1), .int (-1), .ref q_1135, .int (-1), .int (-1), .ref q_1136, .int (-1), .int (-1), .ref q_1137, .int 0, .int 0, .ref q_1138, .ref q_1139, .int 0, .int 0, .ref q_1140, .int 0, .int 0, .int 0, .int 0])), (aI ca q_1126 89 u_1143), (aZ ca q_1134 2 u_1144)] := hD
  refine lv_iinc (v := 83) (lv' := [(1, .int 83), (0, .ref h0)]) hx hb dX12_init_202 hl (k := 0) rfl (by decide) (by decide) rfl (fun ls hl => ?_)
  refine lv_goto (tgt := 184) hx hb dX12_init_205 (by decide) ?_
  clear s_2106 s_2107 s_2108 s_2109 s_2110 s_2111 s_2112 s_2113 s_2114 s_2115 s_2116 s_2117 ex_2118 eg_2119
  refine lv_iload_n hx hb dX12_init_184 rfl (lv_at hl 0 rfl) ?_
  refine lv_bipush (v := 89) hx hb dX12_init_185 (by decide) ?_
  refine lv_icmp_ge (tgt := 208) hx hb dX12_init_187 (by decide) (fun c => absurd c (by decide)) (fun _ => ?_)
  refine lv_aload_n hx hb dX12_init_190 rfl (lv_at hl 1 rfl) ?_
  refine va_get (D := D) (ci := 11) (v := .ref q_1125) (C := RX12) (T := TX12) (N := 48) hx hb hts k6 hown hK.1 hP 15 rfl rfl 14 (by decide) k7 (fun _ h9 => h9) rfl dX12_init_191 ?_
  refine lv_iload_n hx hb dX12_init_194 rfl (lv_at hl 0 rfl) ?_
  refine lv_aload_n hx hb dX12_init_195 rfl (lv_at hl 1 rfl) ?_
  refine va_get (D := D) (ci := 11) (v := .ref q_1126) (C := RX12) (T := TX12) (N := 48) hx hb hts k6 hown hK.1 hP 15 rfl rfl 15 (by decide) k8 (fun _ h9 => h9) rfl dX12_init_196 ?_
  refine lv_iload_n hx hb dX12_init_199 rfl (lv_at hl 0 rfl) ?_
  refine va_iald hx hb hK.1 hP 16 0 rfl rfl (rg_in (⟨by decide, by decide⟩ : rg 83 83 (83 : Int32)) (by decide) (by decide)) dX12_init_200 ?_
  refine lv_topi (fun x_2133 ex_2133 => ?_)
  refine va_iast hx hb hK.1 hP hD hS 1 0 rfl rfl (rg_in (⟨by decide, by decide⟩ : rg 83 83 (83 : Int32)) (by decide) (by decide)) dX12_init_201 (fun H locs hP hD hS => ?_)
  obtain ⟨g_2134, eg_2134⟩ : ∃ y : Nat → Int32, y = upd g_2119 (83 : Int32).toNatClampNeg (x_2133 : Int32) := ⟨_, rfl⟩
  rw [← eg_2134] at hP hD
  have s_2136 : sg 84 376 0 0 g_2134 := sg_out (sg_w s_2121 (by decide) (by decide) (by decide) (by decide)) eg_2134 (⟨by decide, by decide⟩ : rg 83 83 (83 : Int32)) (by decide) (by decide)
  have s_2137 : sg 0 1 0 10 g_2134 := sg_out s_2122 eg_2134 (⟨by decide, by decide⟩ : rg 83 83 (83 : Int32)) (by decide) (by decide)
  have s_2138 : sg 1 2 0 4 g_2134 := sg_out s_2123 eg_2134 (⟨by decide, by decide⟩ : rg 83 83 (83 : Int32)) (by decide) (by decide)
  have s_2139 : sg 2 3 0 5 g_2134 := sg_out s_2124 eg_2134 (⟨by decide, by decide⟩ : rg 83 83 (83 : Int32)) (by decide) (by decide)
  have s_2140 : sg 3 4 3 3 g_2134 := sg_out s_2125 eg_2134 (⟨by decide, by decide⟩ : rg 83 83 (83 : Int32)) (by decide) (by decide)
  have s_2141 : sg 4 5 1 1 g_2134 := sg_out s_2126 eg_2134 (⟨by decide, by decide⟩ : rg 83 83 (83 : Int32)) (by decide) (by decide)
  have s_2142 : sg 35 36 0 1023 g_2134 := sg_out s_2127 eg_2134 (⟨by decide, by decide⟩ : rg 83 83 (83 : Int32)) (by decide) (by decide)
  have s_2143 : sg 44 45 0 3 g_2134 := sg_out s_2128 eg_2134 (⟨by decide, by decide⟩ : rg 83 83 (83 : Int32)) (by decide) (by decide)
  have s_2144 : sg 45 46 0 3 g_2134 := sg_out s_2129 eg_2134 (⟨by decide, by decide⟩ : rg 83 83 (83 : Int32)) (by decide) (by decide)
  have s_2145 : sg 46 47 0 3 g_2134 := sg_out s_2130 eg_2134 (⟨by decide, by decide⟩ : rg 83 83 (83 : Int32)) (by decide) (by decide)
  have s_2146 : sg 47 48 0 3 g_2134 := sg_out s_2131 eg_2134 (⟨by decide, by decide⟩ : rg 83 83 (83 : Int32)) (by decide) (by decide)
  have s_2147 : sg 48 49 0 3 g_2134 := sg_out s_2132 eg_2134 (⟨by decide, by decide⟩ : rg 83 83 (83 : Int32)) (by decide) (by decide)
  have hP : va_P D vwCl [(aI ca q_1124 940 (fun _ => 0)), (aI ca q_1125 376 g_2134), (aI ca q_1127 752 (fun _ => 0)), (aI ca q_1128 360 (fun _ => 0)), (aI ca q_1129 45 (fun _ => 0)), (aJ ca q_1130 19 (fun _ => 0)), (aJ ca q_1131 19 (fun _ => 0)), (aJ ca q_1132 38 (fun _ => 0)), (aZ ca q_1133 2 (fun _ => 0)), (aI ca q_1135 10 (fun _ => 0)), (aZ ca q_1136 1024 (fun _ => 0)), (aI ca q_1137 64 (fun _ => 0)), (aI ca q_1138 80 (fun _ => 0)), (aI ca q_1139 4 (fun _ => 0)), (aI ca q_1140 240 (fun _ => 0)), (h0, .inr (11, [.int 0, .ref q_1124, .int 0, .int 0, .int 0, .int 0, .int 0, .int 0, .int 0, .int 0, .int 0, .int 0, .long 0, .int 0, .ref q_1125, .ref q_1126, .ref q_1127, .ref q_1128, .ref q_1129, .ref q_1130, .ref q_1131, .ref q_1132, .ref q_1133, .ref q_1134, .int 0, .int 0, .int 0, .int (-1), .int (-1), .int (-1), .ref q_1135, .int (-1), .int (-1), .ref q_1136, .int (-1), .int (-1), .ref q_1137, .int 0, .int 0, .ref q_1138, .ref q_1139, .int 0, .int 0, .ref q_1140, .int 0, .int 0, .int 0, .int 0])), (aI ca q_1126 89 u_1143), (aZ ca q_1134 2 u_1144)] H := hP
  have hD : va_D A [(aI ca q_1124 940 (fun _ => 0)), (aI ca q_1125 376 g_2134), (aI ca q_1127 752 (fun _ => 0)), (aI ca q_1128 360 (fun _ => 0)), (aI ca q_1129 45 (fun _ => 0)), (aJ ca q_1130 19 (fun _ => 0)), (aJ ca q_1131 19 (fun _ => 0)), (aJ ca q_1132 38 (fun _ => 0)), (aZ ca q_1133 2 (fun _ => 0)), (aI ca q_1135 10 (fun _ => 0)), (aZ ca q_1136 1024 (fun _ => 0)), (aI ca q_1137 64 (fun _ => 0)), (aI ca q_1138 80 (fun _ => 0)), (aI ca q_1139 4 (fun _ => 0)), (aI ca q_1140 240 (fun _ => 0)), (h0, .inr (11, [.int 0, .ref q_1124, .int 0, .int 0, .int 0, .int 0, .int 0, .int 0, .int 0, .int 0, .int 0, .int 0, .long 0, .int 0, .ref q_1125, .ref q_1126, .ref q_1127, .ref q_1128, .ref q_1129, .ref q_1130, .ref q_1131, .ref q_1132, .ref q_1133, .ref q_1134, .int 0, .int 0, .int 0, .int (-1), .int (-1), .int (-1), .ref q_1135, .int (-1), .int (-1), .ref q_1136, .int (-1), .int (-1), .ref q_1137, .int 0, .int 0, .ref q_1138, .ref q_1139, .int 0, .int 0, .ref q_1140, .int 0, .int 0, .int 0, .int 0])), (aI ca q_1126 89 u_1143), (aZ ca q_1134 2 u_1144)] := hD
  refine lv_iinc (v := 84) (lv' := [(1, .int 84), (0, .ref h0)]) hx hb dX12_init_202 hl (k := 0) rfl (by decide) (by decide) rfl (fun ls hl => ?_)
  refine lv_goto (tgt := 184) hx hb dX12_init_205 (by decide) ?_
  clear s_2121 s_2122 s_2123 s_2124 s_2125 s_2126 s_2127 s_2128 s_2129 s_2130 s_2131 s_2132 ex_2133 eg_2134
  refine lv_iload_n hx hb dX12_init_184 rfl (lv_at hl 0 rfl) ?_
  refine lv_bipush (v := 89) hx hb dX12_init_185 (by decide) ?_
  refine lv_icmp_ge (tgt := 208) hx hb dX12_init_187 (by decide) (fun c => absurd c (by decide)) (fun _ => ?_)
  refine lv_aload_n hx hb dX12_init_190 rfl (lv_at hl 1 rfl) ?_
  refine va_get (D := D) (ci := 11) (v := .ref q_1125) (C := RX12) (T := TX12) (N := 48) hx hb hts k6 hown hK.1 hP 15 rfl rfl 14 (by decide) k7 (fun _ h9 => h9) rfl dX12_init_191 ?_
  refine lv_iload_n hx hb dX12_init_194 rfl (lv_at hl 0 rfl) ?_
  refine lv_aload_n hx hb dX12_init_195 rfl (lv_at hl 1 rfl) ?_
  refine va_get (D := D) (ci := 11) (v := .ref q_1126) (C := RX12) (T := TX12) (N := 48) hx hb hts k6 hown hK.1 hP 15 rfl rfl 15 (by decide) k8 (fun _ h9 => h9) rfl dX12_init_196 ?_
  refine lv_iload_n hx hb dX12_init_199 rfl (lv_at hl 0 rfl) ?_
  refine va_iald hx hb hK.1 hP 16 0 rfl rfl (rg_in (⟨by decide, by decide⟩ : rg 84 84 (84 : Int32)) (by decide) (by decide)) dX12_init_200 ?_
  refine lv_topi (fun x_2148 ex_2148 => ?_)
  refine va_iast hx hb hK.1 hP hD hS 1 0 rfl rfl (rg_in (⟨by decide, by decide⟩ : rg 84 84 (84 : Int32)) (by decide) (by decide)) dX12_init_201 (fun H locs hP hD hS => ?_)
  obtain ⟨g_2149, eg_2149⟩ : ∃ y : Nat → Int32, y = upd g_2134 (84 : Int32).toNatClampNeg (x_2148 : Int32) := ⟨_, rfl⟩
  rw [← eg_2149] at hP hD
  have s_2151 : sg 85 376 0 0 g_2149 := sg_out (sg_w s_2136 (by decide) (by decide) (by decide) (by decide)) eg_2149 (⟨by decide, by decide⟩ : rg 84 84 (84 : Int32)) (by decide) (by decide)
  have s_2152 : sg 0 1 0 10 g_2149 := sg_out s_2137 eg_2149 (⟨by decide, by decide⟩ : rg 84 84 (84 : Int32)) (by decide) (by decide)
  have s_2153 : sg 1 2 0 4 g_2149 := sg_out s_2138 eg_2149 (⟨by decide, by decide⟩ : rg 84 84 (84 : Int32)) (by decide) (by decide)
  have s_2154 : sg 2 3 0 5 g_2149 := sg_out s_2139 eg_2149 (⟨by decide, by decide⟩ : rg 84 84 (84 : Int32)) (by decide) (by decide)
  have s_2155 : sg 3 4 3 3 g_2149 := sg_out s_2140 eg_2149 (⟨by decide, by decide⟩ : rg 84 84 (84 : Int32)) (by decide) (by decide)
  have s_2156 : sg 4 5 1 1 g_2149 := sg_out s_2141 eg_2149 (⟨by decide, by decide⟩ : rg 84 84 (84 : Int32)) (by decide) (by decide)
  have s_2157 : sg 35 36 0 1023 g_2149 := sg_out s_2142 eg_2149 (⟨by decide, by decide⟩ : rg 84 84 (84 : Int32)) (by decide) (by decide)
  have s_2158 : sg 44 45 0 3 g_2149 := sg_out s_2143 eg_2149 (⟨by decide, by decide⟩ : rg 84 84 (84 : Int32)) (by decide) (by decide)
  have s_2159 : sg 45 46 0 3 g_2149 := sg_out s_2144 eg_2149 (⟨by decide, by decide⟩ : rg 84 84 (84 : Int32)) (by decide) (by decide)
  have s_2160 : sg 46 47 0 3 g_2149 := sg_out s_2145 eg_2149 (⟨by decide, by decide⟩ : rg 84 84 (84 : Int32)) (by decide) (by decide)
  have s_2161 : sg 47 48 0 3 g_2149 := sg_out s_2146 eg_2149 (⟨by decide, by decide⟩ : rg 84 84 (84 : Int32)) (by decide) (by decide)
  have s_2162 : sg 48 49 0 3 g_2149 := sg_out s_2147 eg_2149 (⟨by decide, by decide⟩ : rg 84 84 (84 : Int32)) (by decide) (by decide)
  have hP : va_P D vwCl [(aI ca q_1124 940 (fun _ => 0)), (aI ca q_1125 376 g_2149), (aI ca q_1127 752 (fun _ => 0)), (aI ca q_1128 360 (fun _ => 0)), (aI ca q_1129 45 (fun _ => 0)), (aJ ca q_1130 19 (fun _ => 0)), (aJ ca q_1131 19 (fun _ => 0)), (aJ ca q_1132 38 (fun _ => 0)), (aZ ca q_1133 2 (fun _ => 0)), (aI ca q_1135 10 (fun _ => 0)), (aZ ca q_1136 1024 (fun _ => 0)), (aI ca q_1137 64 (fun _ => 0)), (aI ca q_1138 80 (fun _ => 0)), (aI ca q_1139 4 (fun _ => 0)), (aI ca q_1140 240 (fun _ => 0)), (h0, .inr (11, [.int 0, .ref q_1124, .int 0, .int 0, .int 0, .int 0, .int 0, .int 0, .int 0, .int 0, .int 0, .int 0, .long 0, .int 0, .ref q_1125, .ref q_1126, .ref q_1127, .ref q_1128, .ref q_1129, .ref q_1130, .ref q_1131, .ref q_1132, .ref q_1133, .ref q_1134, .int 0, .int 0, .int 0, .int (-1), .int (-1), .int (-1), .ref q_1135, .int (-1), .int (-1), .ref q_1136, .int (-1), .int (-1), .ref q_1137, .int 0, .int 0, .ref q_1138, .ref q_1139, .int 0, .int 0, .ref q_1140, .int 0, .int 0, .int 0, .int 0])), (aI ca q_1126 89 u_1143), (aZ ca q_1134 2 u_1144)] H := hP
  have hD : va_D A [(aI ca q_1124 940 (fun _ => 0)), (aI ca q_1125 376 g_2149), (aI ca q_1127 752 (fun _ => 0)), (aI ca q_1128 360 (fun _ => 0)), (aI ca q_1129 45 (fun _ => 0)), (aJ ca q_1130 19 (fun _ => 0)), (aJ ca q_1131 19 (fun _ => 0)), (aJ ca q_1132 38 (fun _ => 0)), (aZ ca q_1133 2 (fun _ => 0)), (aI ca q_1135 10 (fun _ => 0)), (aZ ca q_1136 1024 (fun _ => 0)), (aI ca q_1137 64 (fun _ => 0)), (aI ca q_1138 80 (fun _ => 0)), (aI ca q_1139 4 (fun _ => 0)), (aI ca q_1140 240 (fun _ => 0)), (h0, .inr (11, [.int 0, .ref q_1124, .int 0, .int 0, .int 0, .int 0, .int 0, .int 0, .int 0, .int 0, .int 0, .int 0, .long 0, .int 0, .ref q_1125, .ref q_1126, .ref q_1127, .ref q_1128, .ref q_1129, .ref q_1130, .ref q_1131, .ref q_1132, .ref q_1133, .ref q_1134, .int 0, .int 0, .int 0, .int (-1), .int (-1), .int (-1), .ref q_1135, .int (-1), .int (-1), .ref q_1136, .int (-1), .int (-1), .ref q_1137, .int 0, .int 0, .ref q_1138, .ref q_1139, .int 0, .int 0, .ref q_1140, .int 0, .int 0, .int 0, .int 0])), (aI ca q_1126 89 u_1143), (aZ ca q_1134 2 u_1144)] := hD
  refine lv_iinc (v := 85) (lv' := [(1, .int 85), (0, .ref h0)]) hx hb dX12_init_202 hl (k := 0) rfl (by decide) (by decide) rfl (fun ls hl => ?_)
  refine lv_goto (tgt := 184) hx hb dX12_init_205 (by decide) ?_
  clear s_2136 s_2137 s_2138 s_2139 s_2140 s_2141 s_2142 s_2143 s_2144 s_2145 s_2146 s_2147 ex_2148 eg_2149
  refine lv_iload_n hx hb dX12_init_184 rfl (lv_at hl 0 rfl) ?_
  refine lv_bipush (v := 89) hx hb dX12_init_185 (by decide) ?_
  refine lv_icmp_ge (tgt := 208) hx hb dX12_init_187 (by decide) (fun c => absurd c (by decide)) (fun _ => ?_)
  refine lv_aload_n hx hb dX12_init_190 rfl (lv_at hl 1 rfl) ?_
  refine va_get (D := D) (ci := 11) (v := .ref q_1125) (C := RX12) (T := TX12) (N := 48) hx hb hts k6 hown hK.1 hP 15 rfl rfl 14 (by decide) k7 (fun _ h9 => h9) rfl dX12_init_191 ?_
  refine lv_iload_n hx hb dX12_init_194 rfl (lv_at hl 0 rfl) ?_
  refine lv_aload_n hx hb dX12_init_195 rfl (lv_at hl 1 rfl) ?_
  refine va_get (D := D) (ci := 11) (v := .ref q_1126) (C := RX12) (T := TX12) (N := 48) hx hb hts k6 hown hK.1 hP 15 rfl rfl 15 (by decide) k8 (fun _ h9 => h9) rfl dX12_init_196 ?_
  refine lv_iload_n hx hb dX12_init_199 rfl (lv_at hl 0 rfl) ?_
  refine va_iald hx hb hK.1 hP 16 0 rfl rfl (rg_in (⟨by decide, by decide⟩ : rg 85 85 (85 : Int32)) (by decide) (by decide)) dX12_init_200 ?_
  refine lv_topi (fun x_2163 ex_2163 => ?_)
  refine va_iast hx hb hK.1 hP hD hS 1 0 rfl rfl (rg_in (⟨by decide, by decide⟩ : rg 85 85 (85 : Int32)) (by decide) (by decide)) dX12_init_201 (fun H locs hP hD hS => ?_)
  obtain ⟨g_2164, eg_2164⟩ : ∃ y : Nat → Int32, y = upd g_2149 (85 : Int32).toNatClampNeg (x_2163 : Int32) := ⟨_, rfl⟩
  rw [← eg_2164] at hP hD
  have s_2166 : sg 86 376 0 0 g_2164 := sg_out (sg_w s_2151 (by decide) (by decide) (by decide) (by decide)) eg_2164 (⟨by decide, by decide⟩ : rg 85 85 (85 : Int32)) (by decide) (by decide)
  have s_2167 : sg 0 1 0 10 g_2164 := sg_out s_2152 eg_2164 (⟨by decide, by decide⟩ : rg 85 85 (85 : Int32)) (by decide) (by decide)
  have s_2168 : sg 1 2 0 4 g_2164 := sg_out s_2153 eg_2164 (⟨by decide, by decide⟩ : rg 85 85 (85 : Int32)) (by decide) (by decide)
  have s_2169 : sg 2 3 0 5 g_2164 := sg_out s_2154 eg_2164 (⟨by decide, by decide⟩ : rg 85 85 (85 : Int32)) (by decide) (by decide)
  have s_2170 : sg 3 4 3 3 g_2164 := sg_out s_2155 eg_2164 (⟨by decide, by decide⟩ : rg 85 85 (85 : Int32)) (by decide) (by decide)
  have s_2171 : sg 4 5 1 1 g_2164 := sg_out s_2156 eg_2164 (⟨by decide, by decide⟩ : rg 85 85 (85 : Int32)) (by decide) (by decide)
  have s_2172 : sg 35 36 0 1023 g_2164 := sg_out s_2157 eg_2164 (⟨by decide, by decide⟩ : rg 85 85 (85 : Int32)) (by decide) (by decide)
  have s_2173 : sg 44 45 0 3 g_2164 := sg_out s_2158 eg_2164 (⟨by decide, by decide⟩ : rg 85 85 (85 : Int32)) (by decide) (by decide)
  have s_2174 : sg 45 46 0 3 g_2164 := sg_out s_2159 eg_2164 (⟨by decide, by decide⟩ : rg 85 85 (85 : Int32)) (by decide) (by decide)
  have s_2175 : sg 46 47 0 3 g_2164 := sg_out s_2160 eg_2164 (⟨by decide, by decide⟩ : rg 85 85 (85 : Int32)) (by decide) (by decide)
  have s_2176 : sg 47 48 0 3 g_2164 := sg_out s_2161 eg_2164 (⟨by decide, by decide⟩ : rg 85 85 (85 : Int32)) (by decide) (by decide)
  have s_2177 : sg 48 49 0 3 g_2164 := sg_out s_2162 eg_2164 (⟨by decide, by decide⟩ : rg 85 85 (85 : Int32)) (by decide) (by decide)
  have hP : va_P D vwCl [(aI ca q_1124 940 (fun _ => 0)), (aI ca q_1125 376 g_2164), (aI ca q_1127 752 (fun _ => 0)), (aI ca q_1128 360 (fun _ => 0)), (aI ca q_1129 45 (fun _ => 0)), (aJ ca q_1130 19 (fun _ => 0)), (aJ ca q_1131 19 (fun _ => 0)), (aJ ca q_1132 38 (fun _ => 0)), (aZ ca q_1133 2 (fun _ => 0)), (aI ca q_1135 10 (fun _ => 0)), (aZ ca q_1136 1024 (fun _ => 0)), (aI ca q_1137 64 (fun _ => 0)), (aI ca q_1138 80 (fun _ => 0)), (aI ca q_1139 4 (fun _ => 0)), (aI ca q_1140 240 (fun _ => 0)), (h0, .inr (11, [.int 0, .ref q_1124, .int 0, .int 0, .int 0, .int 0, .int 0, .int 0, .int 0, .int 0, .int 0, .int 0, .long 0, .int 0, .ref q_1125, .ref q_1126, .ref q_1127, .ref q_1128, .ref q_1129, .ref q_1130, .ref q_1131, .ref q_1132, .ref q_1133, .ref q_1134, .int 0, .int 0, .int 0, .int (-1), .int (-1), .int (-1), .ref q_1135, .int (-1), .int (-1), .ref q_1136, .int (-1), .int (-1), .ref q_1137, .int 0, .int 0, .ref q_1138, .ref q_1139, .int 0, .int 0, .ref q_1140, .int 0, .int 0, .int 0, .int 0])), (aI ca q_1126 89 u_1143), (aZ ca q_1134 2 u_1144)] H := hP
  have hD : va_D A [(aI ca q_1124 940 (fun _ => 0)), (aI ca q_1125 376 g_2164), (aI ca q_1127 752 (fun _ => 0)), (aI ca q_1128 360 (fun _ => 0)), (aI ca q_1129 45 (fun _ => 0)), (aJ ca q_1130 19 (fun _ => 0)), (aJ ca q_1131 19 (fun _ => 0)), (aJ ca q_1132 38 (fun _ => 0)), (aZ ca q_1133 2 (fun _ => 0)), (aI ca q_1135 10 (fun _ => 0)), (aZ ca q_1136 1024 (fun _ => 0)), (aI ca q_1137 64 (fun _ => 0)), (aI ca q_1138 80 (fun _ => 0)), (aI ca q_1139 4 (fun _ => 0)), (aI ca q_1140 240 (fun _ => 0)), (h0, .inr (11, [.int 0, .ref q_1124, .int 0, .int 0, .int 0, .int 0, .int 0, .int 0, .int 0, .int 0, .int 0, .int 0, .long 0, .int 0, .ref q_1125, .ref q_1126, .ref q_1127, .ref q_1128, .ref q_1129, .ref q_1130, .ref q_1131, .ref q_1132, .ref q_1133, .ref q_1134, .int 0, .int 0, .int 0, .int (-1), .int (-1), .int (-1), .ref q_1135, .int (-1), .int (-1), .ref q_1136, .int (-1), .int (-1), .ref q_1137, .int 0, .int 0, .ref q_1138, .ref q_1139, .int 0, .int 0, .ref q_1140, .int 0, .int 0, .int 0, .int 0])), (aI ca q_1126 89 u_1143), (aZ ca q_1134 2 u_1144)] := hD
  refine lv_iinc (v := 86) (lv' := [(1, .int 86), (0, .ref h0)]) hx hb dX12_init_202 hl (k := 0) rfl (by decide) (by decide) rfl (fun ls hl => ?_)
  refine lv_goto (tgt := 184) hx hb dX12_init_205 (by decide) ?_
  clear s_2151 s_2152 s_2153 s_2154 s_2155 s_2156 s_2157 s_2158 s_2159 s_2160 s_2161 s_2162 ex_2163 eg_2164
  refine lv_iload_n hx hb dX12_init_184 rfl (lv_at hl 0 rfl) ?_
  refine lv_bipush (v := 89) hx hb dX12_init_185 (by decide) ?_
  refine lv_icmp_ge (tgt := 208) hx hb dX12_init_187 (by decide) (fun c => absurd c (by decide)) (fun _ => ?_)
  refine lv_aload_n hx hb dX12_init_190 rfl (lv_at hl 1 rfl) ?_
  refine va_get (D := D) (ci := 11) (v := .ref q_1125) (C := RX12) (T := TX12) (N := 48) hx hb hts k6 hown hK.1 hP 15 rfl rfl 14 (by decide) k7 (fun _ h9 => h9) rfl dX12_init_191 ?_
  refine lv_iload_n hx hb dX12_init_194 rfl (lv_at hl 0 rfl) ?_
  refine lv_aload_n hx hb dX12_init_195 rfl (lv_at hl 1 rfl) ?_
  refine va_get (D := D) (ci := 11) (v := .ref q_1126) (C := RX12) (T := TX12) (N := 48) hx hb hts k6 hown hK.1 hP 15 rfl rfl 15 (by decide) k8 (fun _ h9 => h9) rfl dX12_init_196 ?_
  refine lv_iload_n hx hb dX12_init_199 rfl (lv_at hl 0 rfl) ?_
  refine va_iald hx hb hK.1 hP 16 0 rfl rfl (rg_in (⟨by decide, by decide⟩ : rg 86 86 (86 : Int32)) (by decide) (by decide)) dX12_init_200 ?_
  refine lv_topi (fun x_2178 ex_2178 => ?_)
  refine va_iast hx hb hK.1 hP hD hS 1 0 rfl rfl (rg_in (⟨by decide, by decide⟩ : rg 86 86 (86 : Int32)) (by decide) (by decide)) dX12_init_201 (fun H locs hP hD hS => ?_)
  obtain ⟨g_2179, eg_2179⟩ : ∃ y : Nat → Int32, y = upd g_2164 (86 : Int32).toNatClampNeg (x_2178 : Int32) := ⟨_, rfl⟩
  rw [← eg_2179] at hP hD
  have s_2181 : sg 87 376 0 0 g_2179 := sg_out (sg_w s_2166 (by decide) (by decide) (by decide) (by decide)) eg_2179 (⟨by decide, by decide⟩ : rg 86 86 (86 : Int32)) (by decide) (by decide)
  have s_2182 : sg 0 1 0 10 g_2179 := sg_out s_2167 eg_2179 (⟨by decide, by decide⟩ : rg 86 86 (86 : Int32)) (by decide) (by decide)
  have s_2183 : sg 1 2 0 4 g_2179 := sg_out s_2168 eg_2179 (⟨by decide, by decide⟩ : rg 86 86 (86 : Int32)) (by decide) (by decide)
  have s_2184 : sg 2 3 0 5 g_2179 := sg_out s_2169 eg_2179 (⟨by decide, by decide⟩ : rg 86 86 (86 : Int32)) (by decide) (by decide)
  have s_2185 : sg 3 4 3 3 g_2179 := sg_out s_2170 eg_2179 (⟨by decide, by decide⟩ : rg 86 86 (86 : Int32)) (by decide) (by decide)
  have s_2186 : sg 4 5 1 1 g_2179 := sg_out s_2171 eg_2179 (⟨by decide, by decide⟩ : rg 86 86 (86 : Int32)) (by decide) (by decide)
  have s_2187 : sg 35 36 0 1023 g_2179 := sg_out s_2172 eg_2179 (⟨by decide, by decide⟩ : rg 86 86 (86 : Int32)) (by decide) (by decide)
  have s_2188 : sg 44 45 0 3 g_2179 := sg_out s_2173 eg_2179 (⟨by decide, by decide⟩ : rg 86 86 (86 : Int32)) (by decide) (by decide)
  have s_2189 : sg 45 46 0 3 g_2179 := sg_out s_2174 eg_2179 (⟨by decide, by decide⟩ : rg 86 86 (86 : Int32)) (by decide) (by decide)
  have s_2190 : sg 46 47 0 3 g_2179 := sg_out s_2175 eg_2179 (⟨by decide, by decide⟩ : rg 86 86 (86 : Int32)) (by decide) (by decide)
  have s_2191 : sg 47 48 0 3 g_2179 := sg_out s_2176 eg_2179 (⟨by decide, by decide⟩ : rg 86 86 (86 : Int32)) (by decide) (by decide)
  have s_2192 : sg 48 49 0 3 g_2179 := sg_out s_2177 eg_2179 (⟨by decide, by decide⟩ : rg 86 86 (86 : Int32)) (by decide) (by decide)
  have hP : va_P D vwCl [(aI ca q_1124 940 (fun _ => 0)), (aI ca q_1125 376 g_2179), (aI ca q_1127 752 (fun _ => 0)), (aI ca q_1128 360 (fun _ => 0)), (aI ca q_1129 45 (fun _ => 0)), (aJ ca q_1130 19 (fun _ => 0)), (aJ ca q_1131 19 (fun _ => 0)), (aJ ca q_1132 38 (fun _ => 0)), (aZ ca q_1133 2 (fun _ => 0)), (aI ca q_1135 10 (fun _ => 0)), (aZ ca q_1136 1024 (fun _ => 0)), (aI ca q_1137 64 (fun _ => 0)), (aI ca q_1138 80 (fun _ => 0)), (aI ca q_1139 4 (fun _ => 0)), (aI ca q_1140 240 (fun _ => 0)), (h0, .inr (11, [.int 0, .ref q_1124, .int 0, .int 0, .int 0, .int 0, .int 0, .int 0, .int 0, .int 0, .int 0, .int 0, .long 0, .int 0, .ref q_1125, .ref q_1126, .ref q_1127, .ref q_1128, .ref q_1129, .ref q_1130, .ref q_1131, .ref q_1132, .ref q_1133, .ref q_1134, .int 0, .int 0, .int 0, .int (-1), .int (-1), .int (-1), .ref q_1135, .int (-1), .int (-1), .ref q_1136, .int (-1), .int (-1), .ref q_1137, .int 0, .int 0, .ref q_1138, .ref q_1139, .int 0, .int 0, .ref q_1140, .int 0, .int 0, .int 0, .int 0])), (aI ca q_1126 89 u_1143), (aZ ca q_1134 2 u_1144)] H := hP
  have hD : va_D A [(aI ca q_1124 940 (fun _ => 0)), (aI ca q_1125 376 g_2179), (aI ca q_1127 752 (fun _ => 0)), (aI ca q_1128 360 (fun _ => 0)), (aI ca q_1129 45 (fun _ => 0)), (aJ ca q_1130 19 (fun _ => 0)), (aJ ca q_1131 19 (fun _ => 0)), (aJ ca q_1132 38 (fun _ => 0)), (aZ ca q_1133 2 (fun _ => 0)), (aI ca q_1135 10 (fun _ => 0)), (aZ ca q_1136 1024 (fun _ => 0)), (aI ca q_1137 64 (fun _ => 0)), (aI ca q_1138 80 (fun _ => 0)), (aI ca q_1139 4 (fun _ => 0)), (aI ca q_1140 240 (fun _ => 0)), (h0, .inr (11, [.int 0, .ref q_1124, .int 0, .int 0, .int 0, .int 0, .int 0, .int 0, .int 0, .int 0, .int 0, .int 0, .long 0, .int 0, .ref q_1125, .ref q_1126, .ref q_1127, .ref q_1128, .ref q_1129, .ref q_1130, .ref q_1131, .ref q_1132, .ref q_1133, .ref q_1134, .int 0, .int 0, .int 0, .int (-1), .int (-1), .int (-1), .ref q_1135, .int (-1), .int (-1), .ref q_1136, .int (-1), .int (-1), .ref q_1137, .int 0, .int 0, .ref q_1138, .ref q_1139, .int 0, .int 0, .ref q_1140, .int 0, .int 0, .int 0, .int 0])), (aI ca q_1126 89 u_1143), (aZ ca q_1134 2 u_1144)] := hD
  refine lv_iinc (v := 87) (lv' := [(1, .int 87), (0, .ref h0)]) hx hb dX12_init_202 hl (k := 0) rfl (by decide) (by decide) rfl (fun ls hl => ?_)
  refine lv_goto (tgt := 184) hx hb dX12_init_205 (by decide) ?_
  clear s_2166 s_2167 s_2168 s_2169 s_2170 s_2171 s_2172 s_2173 s_2174 s_2175 s_2176 s_2177 ex_2178 eg_2179
  refine lv_iload_n hx hb dX12_init_184 rfl (lv_at hl 0 rfl) ?_
  refine lv_bipush (v := 89) hx hb dX12_init_185 (by decide) ?_
  refine lv_icmp_ge (tgt := 208) hx hb dX12_init_187 (by decide) (fun c => absurd c (by decide)) (fun _ => ?_)
  refine lv_aload_n hx hb dX12_init_190 rfl (lv_at hl 1 rfl) ?_
  refine va_get (D := D) (ci := 11) (v := .ref q_1125) (C := RX12) (T := TX12) (N := 48) hx hb hts k6 hown hK.1 hP 15 rfl rfl 14 (by decide) k7 (fun _ h9 => h9) rfl dX12_init_191 ?_
  refine lv_iload_n hx hb dX12_init_194 rfl (lv_at hl 0 rfl) ?_
  refine lv_aload_n hx hb dX12_init_195 rfl (lv_at hl 1 rfl) ?_
  refine va_get (D := D) (ci := 11) (v := .ref q_1126) (C := RX12) (T := TX12) (N := 48) hx hb hts k6 hown hK.1 hP 15 rfl rfl 15 (by decide) k8 (fun _ h9 => h9) rfl dX12_init_196 ?_
  refine lv_iload_n hx hb dX12_init_199 rfl (lv_at hl 0 rfl) ?_
  refine va_iald hx hb hK.1 hP 16 0 rfl rfl (rg_in (⟨by decide, by decide⟩ : rg 87 87 (87 : Int32)) (by decide) (by decide)) dX12_init_200 ?_
  refine lv_topi (fun x_2193 ex_2193 => ?_)
  refine va_iast hx hb hK.1 hP hD hS 1 0 rfl rfl (rg_in (⟨by decide, by decide⟩ : rg 87 87 (87 : Int32)) (by decide) (by decide)) dX12_init_201 (fun H locs hP hD hS => ?_)
  obtain ⟨g_2194, eg_2194⟩ : ∃ y : Nat → Int32, y = upd g_2179 (87 : Int32).toNatClampNeg (x_2193 : Int32) := ⟨_, rfl⟩
  rw [← eg_2194] at hP hD
  have s_2196 : sg 88 376 0 0 g_2194 := sg_out (sg_w s_2181 (by decide) (by decide) (by decide) (by decide)) eg_2194 (⟨by decide, by decide⟩ : rg 87 87 (87 : Int32)) (by decide) (by decide)
  have s_2197 : sg 0 1 0 10 g_2194 := sg_out s_2182 eg_2194 (⟨by decide, by decide⟩ : rg 87 87 (87 : Int32)) (by decide) (by decide)
  have s_2198 : sg 1 2 0 4 g_2194 := sg_out s_2183 eg_2194 (⟨by decide, by decide⟩ : rg 87 87 (87 : Int32)) (by decide) (by decide)
  have s_2199 : sg 2 3 0 5 g_2194 := sg_out s_2184 eg_2194 (⟨by decide, by decide⟩ : rg 87 87 (87 : Int32)) (by decide) (by decide)
  have s_2200 : sg 3 4 3 3 g_2194 := sg_out s_2185 eg_2194 (⟨by decide, by decide⟩ : rg 87 87 (87 : Int32)) (by decide) (by decide)
  have s_2201 : sg 4 5 1 1 g_2194 := sg_out s_2186 eg_2194 (⟨by decide, by decide⟩ : rg 87 87 (87 : Int32)) (by decide) (by decide)
  have s_2202 : sg 35 36 0 1023 g_2194 := sg_out s_2187 eg_2194 (⟨by decide, by decide⟩ : rg 87 87 (87 : Int32)) (by decide) (by decide)
  have s_2203 : sg 44 45 0 3 g_2194 := sg_out s_2188 eg_2194 (⟨by decide, by decide⟩ : rg 87 87 (87 : Int32)) (by decide) (by decide)
  have s_2204 : sg 45 46 0 3 g_2194 := sg_out s_2189 eg_2194 (⟨by decide, by decide⟩ : rg 87 87 (87 : Int32)) (by decide) (by decide)
  have s_2205 : sg 46 47 0 3 g_2194 := sg_out s_2190 eg_2194 (⟨by decide, by decide⟩ : rg 87 87 (87 : Int32)) (by decide) (by decide)
  have s_2206 : sg 47 48 0 3 g_2194 := sg_out s_2191 eg_2194 (⟨by decide, by decide⟩ : rg 87 87 (87 : Int32)) (by decide) (by decide)
  have s_2207 : sg 48 49 0 3 g_2194 := sg_out s_2192 eg_2194 (⟨by decide, by decide⟩ : rg 87 87 (87 : Int32)) (by decide) (by decide)
  have hP : va_P D vwCl [(aI ca q_1124 940 (fun _ => 0)), (aI ca q_1125 376 g_2194), (aI ca q_1127 752 (fun _ => 0)), (aI ca q_1128 360 (fun _ => 0)), (aI ca q_1129 45 (fun _ => 0)), (aJ ca q_1130 19 (fun _ => 0)), (aJ ca q_1131 19 (fun _ => 0)), (aJ ca q_1132 38 (fun _ => 0)), (aZ ca q_1133 2 (fun _ => 0)), (aI ca q_1135 10 (fun _ => 0)), (aZ ca q_1136 1024 (fun _ => 0)), (aI ca q_1137 64 (fun _ => 0)), (aI ca q_1138 80 (fun _ => 0)), (aI ca q_1139 4 (fun _ => 0)), (aI ca q_1140 240 (fun _ => 0)), (h0, .inr (11, [.int 0, .ref q_1124, .int 0, .int 0, .int 0, .int 0, .int 0, .int 0, .int 0, .int 0, .int 0, .int 0, .long 0, .int 0, .ref q_1125, .ref q_1126, .ref q_1127, .ref q_1128, .ref q_1129, .ref q_1130, .ref q_1131, .ref q_1132, .ref q_1133, .ref q_1134, .int 0, .int 0, .int 0, .int (-1), .int (-1), .int (-1), .ref q_1135, .int (-1), .int (-1), .ref q_1136, .int (-1), .int (-1), .ref q_1137, .int 0, .int 0, .ref q_1138, .ref q_1139, .int 0, .int 0, .ref q_1140, .int 0, .int 0, .int 0, .int 0])), (aI ca q_1126 89 u_1143), (aZ ca q_1134 2 u_1144)] H := hP
  have hD : va_D A [(aI ca q_1124 940 (fun _ => 0)), (aI ca q_1125 376 g_2194), (aI ca q_1127 752 (fun _ => 0)), (aI ca q_1128 360 (fun _ => 0)), (aI ca q_1129 45 (fun _ => 0)), (aJ ca q_1130 19 (fun _ => 0)), (aJ ca q_1131 19 (fun _ => 0)), (aJ ca q_1132 38 (fun _ => 0)), (aZ ca q_1133 2 (fun _ => 0)), (aI ca q_1135 10 (fun _ => 0)), (aZ ca q_1136 1024 (fun _ => 0)), (aI ca q_1137 64 (fun _ => 0)), (aI ca q_1138 80 (fun _ => 0)), (aI ca q_1139 4 (fun _ => 0)), (aI ca q_1140 240 (fun _ => 0)), (h0, .inr (11, [.int 0, .ref q_1124, .int 0, .int 0, .int 0, .int 0, .int 0, .int 0, .int 0, .int 0, .int 0, .int 0, .long 0, .int 0, .ref q_1125, .ref q_1126, .ref q_1127, .ref q_1128, .ref q_1129, .ref q_1130, .ref q_1131, .ref q_1132, .ref q_1133, .ref q_1134, .int 0, .int 0, .int 0, .int (-1), .int (-1), .int (-1), .ref q_1135, .int (-1), .int (-1), .ref q_1136, .int (-1), .int (-1), .ref q_1137, .int 0, .int 0, .ref q_1138, .ref q_1139, .int 0, .int 0, .ref q_1140, .int 0, .int 0, .int 0, .int 0])), (aI ca q_1126 89 u_1143), (aZ ca q_1134 2 u_1144)] := hD
  refine lv_iinc (v := 88) (lv' := [(1, .int 88), (0, .ref h0)]) hx hb dX12_init_202 hl (k := 0) rfl (by decide) (by decide) rfl (fun ls hl => ?_)
  refine lv_goto (tgt := 184) hx hb dX12_init_205 (by decide) ?_
  clear s_2181 s_2182 s_2183 s_2184 s_2185 s_2186 s_2187 s_2188 s_2189 s_2190 s_2191 s_2192 ex_2193 eg_2194
  refine lv_iload_n hx hb dX12_init_184 rfl (lv_at hl 0 rfl) ?_
  refine lv_bipush (v := 89) hx hb dX12_init_185 (by decide) ?_
  refine lv_icmp_ge (tgt := 208) hx hb dX12_init_187 (by decide) (fun c => absurd c (by decide)) (fun _ => ?_)
  refine lv_aload_n hx hb dX12_init_190 rfl (lv_at hl 1 rfl) ?_
  refine va_get (D := D) (ci := 11) (v := .ref q_1125) (C := RX12) (T := TX12) (N := 48) hx hb hts k6 hown hK.1 hP 15 rfl rfl 14 (by decide) k7 (fun _ h9 => h9) rfl dX12_init_191 ?_
  refine lv_iload_n hx hb dX12_init_194 rfl (lv_at hl 0 rfl) ?_
  refine lv_aload_n hx hb dX12_init_195 rfl (lv_at hl 1 rfl) ?_
  refine va_get (D := D) (ci := 11) (v := .ref q_1126) (C := RX12) (T := TX12) (N := 48) hx hb hts k6 hown hK.1 hP 15 rfl rfl 15 (by decide) k8 (fun _ h9 => h9) rfl dX12_init_196 ?_
  refine lv_iload_n hx hb dX12_init_199 rfl (lv_at hl 0 rfl) ?_
  refine va_iald hx hb hK.1 hP 16 0 rfl rfl (rg_in (⟨by decide, by decide⟩ : rg 88 88 (88 : Int32)) (by decide) (by decide)) dX12_init_200 ?_
  refine lv_topi (fun x_2208 ex_2208 => ?_)
  refine va_iast hx hb hK.1 hP hD hS 1 0 rfl rfl (rg_in (⟨by decide, by decide⟩ : rg 88 88 (88 : Int32)) (by decide) (by decide)) dX12_init_201 (fun H locs hP hD hS => ?_)
  obtain ⟨g_2209, eg_2209⟩ : ∃ y : Nat → Int32, y = upd g_2194 (88 : Int32).toNatClampNeg (x_2208 : Int32) := ⟨_, rfl⟩
  rw [← eg_2209] at hP hD
  have s_2211 : sg 89 376 0 0 g_2209 := sg_out (sg_w s_2196 (by decide) (by decide) (by decide) (by decide)) eg_2209 (⟨by decide, by decide⟩ : rg 88 88 (88 : Int32)) (by decide) (by decide)
  have s_2212 : sg 0 1 0 10 g_2209 := sg_out s_2197 eg_2209 (⟨by decide, by decide⟩ : rg 88 88 (88 : Int32)) (by decide) (by decide)
  have s_2213 : sg 1 2 0 4 g_2209 := sg_out s_2198 eg_2209 (⟨by decide, by decide⟩ : rg 88 88 (88 : Int32)) (by decide) (by decide)
  have s_2214 : sg 2 3 0 5 g_2209 := sg_out s_2199 eg_2209 (⟨by decide, by decide⟩ : rg 88 88 (88 : Int32)) (by decide) (by decide)
  have s_2215 : sg 3 4 3 3 g_2209 := sg_out s_2200 eg_2209 (⟨by decide, by decide⟩ : rg 88 88 (88 : Int32)) (by decide) (by decide)
  have s_2216 : sg 4 5 1 1 g_2209 := sg_out s_2201 eg_2209 (⟨by decide, by decide⟩ : rg 88 88 (88 : Int32)) (by decide) (by decide)
  have s_2217 : sg 35 36 0 1023 g_2209 := sg_out s_2202 eg_2209 (⟨by decide, by decide⟩ : rg 88 88 (88 : Int32)) (by decide) (by decide)
  have s_2218 : sg 44 45 0 3 g_2209 := sg_out s_2203 eg_2209 (⟨by decide, by decide⟩ : rg 88 88 (88 : Int32)) (by decide) (by decide)
  have s_2219 : sg 45 46 0 3 g_2209 := sg_out s_2204 eg_2209 (⟨by decide, by decide⟩ : rg 88 88 (88 : Int32)) (by decide) (by decide)
  have s_2220 : sg 46 47 0 3 g_2209 := sg_out s_2205 eg_2209 (⟨by decide, by decide⟩ : rg 88 88 (88 : Int32)) (by decide) (by decide)
  have s_2221 : sg 47 48 0 3 g_2209 := sg_out s_2206 eg_2209 (⟨by decide, by decide⟩ : rg 88 88 (88 : Int32)) (by decide) (by decide)
  have s_2222 : sg 48 49 0 3 g_2209 := sg_out s_2207 eg_2209 (⟨by decide, by decide⟩ : rg 88 88 (88 : Int32)) (by decide) (by decide)
  have hP : va_P D vwCl [(aI ca q_1124 940 (fun _ => 0)), (aI ca q_1125 376 g_2209), (aI ca q_1127 752 (fun _ => 0)), (aI ca q_1128 360 (fun _ => 0)), (aI ca q_1129 45 (fun _ => 0)), (aJ ca q_1130 19 (fun _ => 0)), (aJ ca q_1131 19 (fun _ => 0)), (aJ ca q_1132 38 (fun _ => 0)), (aZ ca q_1133 2 (fun _ => 0)), (aI ca q_1135 10 (fun _ => 0)), (aZ ca q_1136 1024 (fun _ => 0)), (aI ca q_1137 64 (fun _ => 0)), (aI ca q_1138 80 (fun _ => 0)), (aI ca q_1139 4 (fun _ => 0)), (aI ca q_1140 240 (fun _ => 0)), (h0, .inr (11, [.int 0, .ref q_1124, .int 0, .int 0, .int 0, .int 0, .int 0, .int 0, .int 0, .int 0, .int 0, .int 0, .long 0, .int 0, .ref q_1125, .ref q_1126, .ref q_1127, .ref q_1128, .ref q_1129, .ref q_1130, .ref q_1131, .ref q_1132, .ref q_1133, .ref q_1134, .int 0, .int 0, .int 0, .int (-1), .int (-1), .int (-1), .ref q_1135, .int (-1), .int (-1), .ref q_1136, .int (-1), .int (-1), .ref q_1137, .int 0, .int 0, .ref q_1138, .ref q_1139, .int 0, .int 0, .ref q_1140, .int 0, .int 0, .int 0, .int 0])), (aI ca q_1126 89 u_1143), (aZ ca q_1134 2 u_1144)] H := hP
  have hD : va_D A [(aI ca q_1124 940 (fun _ => 0)), (aI ca q_1125 376 g_2209), (aI ca q_1127 752 (fun _ => 0)), (aI ca q_1128 360 (fun _ => 0)), (aI ca q_1129 45 (fun _ => 0)), (aJ ca q_1130 19 (fun _ => 0)), (aJ ca q_1131 19 (fun _ => 0)), (aJ ca q_1132 38 (fun _ => 0)), (aZ ca q_1133 2 (fun _ => 0)), (aI ca q_1135 10 (fun _ => 0)), (aZ ca q_1136 1024 (fun _ => 0)), (aI ca q_1137 64 (fun _ => 0)), (aI ca q_1138 80 (fun _ => 0)), (aI ca q_1139 4 (fun _ => 0)), (aI ca q_1140 240 (fun _ => 0)), (h0, .inr (11, [.int 0, .ref q_1124, .int 0, .int 0, .int 0, .int 0, .int 0, .int 0, .int 0, .int 0, .int 0, .int 0, .long 0, .int 0, .ref q_1125, .ref q_1126, .ref q_1127, .ref q_1128, .ref q_1129, .ref q_1130, .ref q_1131, .ref q_1132, .ref q_1133, .ref q_1134, .int 0, .int 0, .int 0, .int (-1), .int (-1), .int (-1), .ref q_1135, .int (-1), .int (-1), .ref q_1136, .int (-1), .int (-1), .ref q_1137, .int 0, .int 0, .ref q_1138, .ref q_1139, .int 0, .int 0, .ref q_1140, .int 0, .int 0, .int 0, .int 0])), (aI ca q_1126 89 u_1143), (aZ ca q_1134 2 u_1144)] := hD
  refine lv_iinc (v := 89) (lv' := [(1, .int 89), (0, .ref h0)]) hx hb dX12_init_202 hl (k := 0) rfl (by decide) (by decide) rfl (fun ls hl => ?_)
  refine lv_goto (tgt := 184) hx hb dX12_init_205 (by decide) ?_
  clear s_2196 s_2197 s_2198 s_2199 s_2200 s_2201 s_2202 s_2203 s_2204 s_2205 s_2206 s_2207 ex_2208 eg_2209
  refine lv_iload_n hx hb dX12_init_184 rfl (lv_at hl 0 rfl) ?_
  refine lv_bipush (v := 89) hx hb dX12_init_185 (by decide) ?_
  refine lv_icmp_ge (tgt := 208) hx hb dX12_init_187 (by decide) (fun _ => ?_) (fun c => absurd (by decide) c)
  refine lv_aload_n hx hb dX12_init_208 rfl (lv_at hl 1 rfl) ?_
  refine oC_v (Wc := [(h0, .inr (11, [.int 0, .ref q_1124, .int 0, .int 0, .int 0, .int 0, .int 0, .int 0, .int 0, .int 0, .int 0, .int 0, .long 0, .int 0, .ref q_1125, .ref q_1126, .ref q_1127, .ref q_1128, .ref q_1129, .ref q_1130, .ref q_1131, .ref q_1132, .ref q_1133, .ref q_1134, .int 0, .int 0, .int 0, .int (-1), .int (-1), .int (-1), .ref q_1135, .int (-1), .int (-1), .ref q_1136, .int (-1), .int (-1), .ref q_1137, .int 0, .int 0, .ref q_1138, .ref q_1139, .int 0, .int 0, .ref q_1140, .int 0, .int 0, .int 0, .int 0])), (aI ca q_1125 376 g_2209)]) (Wr := [(aI ca q_1124 940 (fun _ => 0)), (aI ca q_1127 752 (fun _ => 0)), (aI ca q_1128 360 (fun _ => 0)), (aI ca q_1129 45 (fun _ => 0)), (aJ ca q_1130 19 (fun _ => 0)), (aJ ca q_1131 19 (fun _ => 0)), (aJ ca q_1132 38 (fun _ => 0)), (aZ ca q_1133 2 (fun _ => 0)), (aI ca q_1135 10 (fun _ => 0)), (aZ ca q_1136 1024 (fun _ => 0)), (aI ca q_1137 64 (fun _ => 0)), (aI ca q_1138 80 (fun _ => 0)), (aI ca q_1139 4 (fun _ => 0)), (aI ca q_1140 240 (fun _ => 0)), (aI ca q_1126 89 u_1143), (aZ ca q_1134 2 u_1144)]) (va_runV (As := []) (rest := []) ⟨hx, hb, hml, hown, hts⟩ (s_X12_startSo_z l D ca H.size h0 0 q_1124 0 0 0 0 0 0 0 0 0 0 0 0 q_1125 q_1126 q_1127 q_1128 q_1129 q_1130 q_1131 q_1132 q_1133 q_1134 0 0 0 (-1) (-1) (-1) q_1135 (-1) (-1) q_1136 (-1) (-1) q_1137 0 0 q_1138 q_1139 0 0 q_1140 0 0 0 0 g_2209 (⟨by decide, by decide⟩ : rg 0 940 (0 : Int32)) (⟨by decide, by decide⟩ : rg 0 940 (0 : Int32)) (⟨by decide, by decide⟩ : rg 0 940 (0 : Int32)) (⟨by decide, by decide⟩ : rg 0 4 (0 : Int32)) (⟨by decide, by decide⟩ : rg 0 8 (0 : Int32)) (⟨by decide, by decide⟩ : rg 0 64 (0 : Int32)) (⟨by decide, by decide⟩ : rg 0 40 (0 : Int32)) (⟨by decide, by decide⟩ : rg 0 1 (0 : Int32)) (⟨by decide, by decide⟩ : rg 0 60 (0 : Int32)) (⟨by decide, by decide⟩ : rg 0 20 (0 : Int32)) s_2212 s_2213 s_2214 s_2217 (sg_j (sg_w (a' := 44) (b' := 45) (lo' := 0) (hi' := 3) s_2218 (by decide) (by decide) (by decide) (by decide)) (sg_j (sg_w (a' := 45) (b' := 46) (lo' := 0) (hi' := 3) s_2219 (by decide) (by decide) (by decide) (by decide)) (sg_j (sg_w (a' := 46) (b' := 47) (lo' := 0) (hi' := 3) s_2220 (by decide) (by decide) (by decide) (by decide)) (sg_j (sg_w (a' := 47) (b' := 48) (lo' := 0) (hi' := 3) s_2221 (by decide) (by decide) (by decide) (by decide)) (sg_w (a' := 48) (b' := 49) (lo' := 0) (hi' := 3) s_2222 (by decide) (by decide) (by decide) (by decide)))))) (sg_w (a' := 90) (b' := 91) (lo' := 0) (hi' := 1023) s_2211 (by decide) (by decide) (by decide) (by decide)) (sg_w (a' := 124) (b' := 129) (lo' := 0) (hi' := 1023) s_2211 (by decide) (by decide) (by decide) (by decide)) (sg_w (a' := 135) (b' := 136) (lo' := 0) (hi' := 39) s_2211 (by decide) (by decide) (by decide) (by decide)) (sg_w (a' := 136) (b' := 376) (lo' := 0) (hi' := 0) s_2211 (by decide) (by decide) (by decide) (by decide))) (cwV 0 hts gX12_init_X12_startSo rfl rfl rfl (by decide +kernel) ⟨Nat.le_of_ble_eq_true rfl, Nat.le_of_ble_eq_true rfl⟩) (oPV (C := RX12) hK hP hD [15, 1] rfl (by decide) 0 rfl (ci := 11) rfl rfl) rfl rfl hl.1 rfl (lv_room (Nat.le_of_ble_eq_true rfl)) dX12_init_209 ⟨Nat.le_of_ble_eq_true rfl, Nat.le_of_ble_eq_true rfl⟩) hP hD hS hA [15, 1] [0, 2, 3, 4, 5, 6, 7, 8, 9, 10, 11, 12, 13, 14, 16, 17] rfl rfl (by decide) (by decide) (fun u H locs w_2224 hP hD hS => ?_)
  obtain ⟨u_2225, rfl⟩ : ∃ z, z = u := ⟨_, rfl⟩
  have hP : va_P D vwCl [(aI ca q_1124 940 (fun _ => 0)), (aI ca q_1127 752 (fun _ => 0)), (aI ca q_1128 360 (fun _ => 0)), (aI ca q_1129 45 (fun _ => 0)), (aJ ca q_1130 19 (fun _ => 0)), (aJ ca q_1131 19 (fun _ => 0)), (aJ ca q_1132 38 (fun _ => 0)), (aZ ca q_1133 2 (fun _ => 0)), (aI ca q_1135 10 (fun _ => 0)), (aZ ca q_1136 1024 (fun _ => 0)), (aI ca q_1137 64 (fun _ => 0)), (aI ca q_1138 80 (fun _ => 0)), (aI ca q_1139 4 (fun _ => 0)), (aI ca q_1140 240 (fun _ => 0)), (aI ca q_1126 89 u_1143), (aZ ca q_1134 2 u_1144), (h0, .inr (11, [.int 0, .ref q_1124, .int 0, .int 0, .int 0, .int 0, .int 0, .int 0, .int 0, .int 0, .int 0, .int 0, .long 0, .int 0, .ref q_1125, .ref q_1126, .ref q_1127, .ref q_1128, .ref q_1129, .ref q_1130, .ref q_1131, .ref q_1132, .ref q_1133, .ref q_1134, .int 0, .int 0, .int 0, .int (-1), .int (-1), .int (-1), .ref q_1135, .int (-1), .int (-1), .ref q_1136, .int (-1), .int (-1), .ref q_1137, .int 0, .int 0, .ref q_1138, .ref q_1139, .int 0, .int 0, .ref q_1140, .int 0, .int 0, .int 0, .int 0])), (aI ca q_1125 376 u_2225)] H := hP
  have hD : va_D A [(aI ca q_1124 940 (fun _ => 0)), (aI ca q_1127 752 (fun _ => 0)), (aI ca q_1128 360 (fun _ => 0)), (aI ca q_1129 45 (fun _ => 0)), (aJ ca q_1130 19 (fun _ => 0)), (aJ ca q_1131 19 (fun _ => 0)), (aJ ca q_1132 38 (fun _ => 0)), (aZ ca q_1133 2 (fun _ => 0)), (aI ca q_1135 10 (fun _ => 0)), (aZ ca q_1136 1024 (fun _ => 0)), (aI ca q_1137 64 (fun _ => 0)), (aI ca q_1138 80 (fun _ => 0)), (aI ca q_1139 4 (fun _ => 0)), (aI ca q_1140 240 (fun _ => 0)), (aI ca q_1126 89 u_1143), (aZ ca q_1134 2 u_1144), (h0, .inr (11, [.int 0, .ref q_1124, .int 0, .int 0, .int 0, .int 0, .int 0, .int 0, .int 0, .int 0, .int 0, .int 0, .long 0, .int 0, .ref q_1125, .ref q_1126, .ref q_1127, .ref q_1128, .ref q_1129, .ref q_1130, .ref q_1131, .ref q_1132, .ref q_1133, .ref q_1134, .int 0, .int 0, .int 0, .int (-1), .int (-1), .int (-1), .ref q_1135, .int (-1), .int (-1), .ref q_1136, .int (-1), .int (-1), .ref q_1137, .int 0, .int 0, .ref q_1138, .ref q_1139, .int 0, .int 0, .ref q_1140, .int 0, .int 0, .int 0, .int 0])), (aI ca q_1125 376 u_2225)] := hD
  try dsimp only at w_2224
  obtain ⟨h_2226, h_2227, h_2228, h_2229, h_2230, h_2231, h_2232, h_2233, h_2234, h_2235⟩ := w_2224
  have s_2236 : sg 0 1 0 10 u_2225 := sg_eqs s_2212 h_2235 (by decide) (by decide)
  have s_2237 : sg 1 2 0 4 u_2225 := sg_eqs s_2213 h_2235 (by decide) (by decide)
  have s_2238 : sg 2 3 0 5 u_2225 := sg_eqs s_2214 h_2235 (by decide) (by decide)
  have s_2239 : sg 3 4 3 3 u_2225 := sg_eqs s_2215 h_2235 (by decide) (by decide)
  have s_2240 : sg 4 5 1 1 u_2225 := sg_eqs s_2216 h_2235 (by decide) (by decide)
  have s_2241 : sg 35 36 0 1023 u_2225 := sg_eqs s_2217 h_2235 (by decide) (by decide)
  have s_2242 : sg 44 45 0 3 u_2225 := sg_eqs s_2218 h_2235 (by decide) (by decide)
  have s_2243 : sg 45 46 0 3 u_2225 := sg_eqs s_2219 h_2235 (by decide) (by decide)
  have s_2244 : sg 46 47 0 3 u_2225 := sg_eqs s_2220 h_2235 (by decide) (by decide)
  have s_2245 : sg 47 48 0 3 u_2225 := sg_eqs s_2221 h_2235 (by decide) (by decide)
  have s_2246 : sg 48 49 0 3 u_2225 := sg_eqs s_2222 h_2235 (by decide) (by decide)
  exact oE_v hx hb hr hlocks hP hD hS ((fun k => [q_1124, q_1127, q_1128, q_1129, q_1130, q_1131, q_1132, q_1133, q_1135, q_1136, q_1137, q_1138, q_1139, q_1140, q_1126, q_1134, q_1125].getD k 0), (fun k => [u_1143, u_1144, u_2225].getD k (fun _ => 0))) [16, 0, 1, 2, 3, 4, 5, 6, 7, 8, 9, 10, 11, 12, 13, 14, 15, 17] rfl (by decide) ⟨h_1145, h_1146, h_1147, h_1148, h_1149, h_1150, h_1151, h_2226, h_2227, h_2228, h_2229, h_2230, h_2231, h_2232, h_2233, h_2234, h_2226, h_2227, h_2228, s_2239, s_2240, h_2229, s_2242, s_2243, s_2244, s_2245, s_2246⟩ (Nat.le_of_ble_eq_true rfl) (Nat.le_of_ble_eq_true rfl) dX12_init_212
