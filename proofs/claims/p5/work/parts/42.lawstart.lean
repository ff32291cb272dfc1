theorem ac_of {args : Array Value} {s : State} {ty : FieldType} (h : (Cond.arrayClass ty).before args s = true) : ∃ cA, ArrOfT s cA ty ∧ s.vm.findClass ("[" ++ ty.toString) = some cA := by
  obtain ⟨cA, kA, comp, h1, h2, h3⟩ := Cond.arrayClass_spec h
  exact ⟨cA, fun n z => ⟨fun k h => (by cases h), kA, h2, comp, h3⟩, h1⟩
theorem ao_of {args : Array Value} {s : State} {C : String} (h : (Cond.arrayOver (.object C)).before args s = true) : ∃ cA, ArrOfT s cA (.object C) ∧ va_RA s cA (.object C) := by
  obtain ⟨comp, c, k, h1, h2, h3, h4, h5⟩ := Cond.arrayOver_spec h
  exact ⟨c, fun N z => ⟨(fun k h => by cases h), k, h3, comp, h4⟩, k, comp, h3, h4, h1, h5⟩
set_option maxRecDepth 100000 in
set_option maxHeartbeats 4000000 in
theorem law_gC {args : Array Value} {s : State} (hts : ∀ w ∈ lw_tbl, w.before args s = true) : ∃ (D : va_G) (ca : Nat → ClassId), gC D ca s := by
  obtain ⟨c0, iS0, hKn0⟩ := u_known (C := RX0) (T := TX0) (N := 6) (n := 6) hts inX0 (hts (.instantiable RX0 6) (List.mem_append_right _ (List.mem_of_getElem? (i := 324) (by decide +kernel))))
  obtain ⟨c1, iS1, hKn1⟩ := u_known (C := RX1) (T := TX1) (N := 4) (n := 4) hts inX1 (hts (.instantiable RX1 4) (List.mem_append_right _ (List.mem_of_getElem? (i := 282) (by decide +kernel))))
  obtain ⟨c2, iS2, hKn2⟩ := u_known (C := RX2) (T := TX2) (N := 4) (n := 4) hts inX2 (hts (.instantiable RX2 4) (List.mem_append_right _ (List.mem_of_getElem? (i := 260) (by decide +kernel))))
  obtain ⟨c3, iS3, hKn3⟩ := u_known (C := RX3) (T := TX3) (N := 3) (n := 3) hts inX3 (hts (.instantiable RX3 3) (List.mem_append_right _ (List.mem_of_getElem? (i := 351) (by decide +kernel))))
  obtain ⟨c4, iS4, hKn4⟩ := u_known (C := RX4) (T := TX4) (N := 4) (n := 4) hts inX4 (hts (.instantiable RX4 4) (List.mem_append_right _ (List.mem_of_getElem? (i := 380) (by decide +kernel))))
  obtain ⟨c5, iS5, hKn5⟩ := u_known (C := RX5) (T := TX5) (N := 16) (n := 16) hts inX5 (hts (.instantiable RX5 16) (List.mem_append_right _ (List.mem_of_getElem? (i := 80) (by decide +kernel))))
  obtain ⟨c6, iS6, hKn6⟩ := u_known (C := RX6) (T := TX6) (N := 10) (n := 10) hts inX6 (hts (.instantiable RX6 10) (List.mem_append_right _ (List.mem_of_getElem? (i := 35) (by decide +kernel))))
  obtain ⟨c7, iS7, hKn7⟩ := u_known (C := RX7) (T := TX7) (N := 6) (n := 6) hts inX7 (hts (.instantiable RX7 6) (List.mem_append_right _ (List.mem_of_getElem? (i := 231) (by decide +kernel))))
  obtain ⟨c8, iS8, hKn8⟩ := u_known (C := RX8) (T := TX8) (N := 3) (n := 3) hts inX8 (hts (.instantiable RX8 3) (List.mem_append_right _ (List.mem_of_getElem? (i := 304) (by decide +kernel))))
  obtain ⟨c9, iS9, hKn9⟩ := u_known (C := RX9) (T := TX9) (N := 11) (n := 11) hts inX9 (hts (.instantiable RX9 11) (List.mem_append_right _ (List.mem_of_getElem? (i := 176) (by decide +kernel))))
  obtain ⟨c10, iS10, hKn10⟩ := u_known (C := RX11) (T := TX11) (N := 15) (n := 15) hts inX11 (hts (.instantiable RX11 15) (List.mem_append_right _ (List.mem_of_getElem? (i := 27) (by decide +kernel))))
  obtain ⟨c11, iS11, hKn11⟩ := u_known (C := RX12) (T := TX12) (N := 48) (n := 48) hts inX12 (hts (.instantiable RX12 48) (List.mem_append_right _ (List.mem_of_getElem? (i := 1303) (by decide +kernel))))
  obtain ⟨a0, ha0, hb0⟩ := ac_of (hts (.arrayClass .int) (List.mem_append_right _ (List.mem_of_getElem? (i := 78) (by decide +kernel))))
  obtain ⟨a1, ha1, hb1⟩ := ac_of (hts (.arrayClass .long) (List.mem_append_right _ (List.mem_of_getElem? (i := 174) (by decide +kernel))))
  obtain ⟨a2, ha2, hb2⟩ := ac_of (hts (.arrayClass .boolean) (List.mem_append_right _ (List.mem_of_getElem? (i := 349) (by decide +kernel))))
  obtain ⟨a3, ha3, hb3⟩ := ac_of (hts (.arrayClass .char) (List.mem_append_right _ (List.mem_of_getElem? (i := 407) (by decide +kernel))))
  have ho0 := hts (.arrayOver (.object "LidCourt$Standing")) (List.mem_append_right _ (List.mem_of_getElem? (i := 357) (by decide +kernel)))
  obtain ⟨a4, ha4, hb4⟩ := ao_of ho0
  have ho1 := hts (.arrayOver (.object "LidCourt$Kept")) (List.mem_append_right _ (List.mem_of_getElem? (i := 371) (by decide +kernel)))
  obtain ⟨a5, ha5, hb5⟩ := ao_of ho1
  have ho2 := hts (.arrayOver (.object "LidCourt$Word")) (List.mem_append_right _ (List.mem_of_getElem? (i := 237) (by decide +kernel)))
  obtain ⟨a6, ha6, hb6⟩ := ao_of ho2
  refine ⟨(fun k => [c0, c1, c2, c3, c4, c5, c6, c7, c8, c9, c10, c11].getD k c0, fun k => [iS0, iS1, iS2, iS3, iS4, iS5, iS6, iS7, iS8, iS9, iS10, iS11].getD k iS0), fun k => [a0, a1, a2, a3, a4, a5, a6].getD k a0, ⟨?_, ?_⟩, ?_, ⟨?_, ?_⟩, ?_, ?_, ?_⟩
  · intro k q hq
    match k, hq with
    | 0, hq => cases hq; exact hKn0
    | 1, hq => cases hq; exact hKn1
    | 2, hq => cases hq; exact hKn2
    | 3, hq => cases hq; exact hKn3
    | 4, hq => cases hq; exact hKn4
    | 5, hq => cases hq; exact hKn5
    | 6, hq => cases hq; exact hKn6
    | 7, hq => cases hq; exact hKn7
    | 8, hq => cases hq; exact hKn8
    | 9, hq => cases hq; exact hKn9
    | 10, hq => cases hq; exact hKn10
    | 11, hq => cases hq; exact hKn11
    | k + 12, hq => simp [vwCl] at hq
  · intro k q hq
    match k, hq with
    | 0, hq => obtain rfl := (Option.some.inj hq : (a0, (.int : FieldType)) = q); exact ⟨ha0, hb0⟩
    | 1, hq => obtain rfl := (Option.some.inj hq : (a1, (.long : FieldType)) = q); exact ⟨ha1, hb1⟩
    | 2, hq => obtain rfl := (Option.some.inj hq : (a2, (.boolean : FieldType)) = q); exact ⟨ha2, hb2⟩
    | 3, hq => obtain rfl := (Option.some.inj hq : (a3, (.char : FieldType)) = q); exact ⟨ha3, hb3⟩
    | 4, hq => obtain rfl := (Option.some.inj hq : (a4, ((.object "LidCourt$Standing") : FieldType)) = q); exact ⟨ha4, hb4⟩
    | 5, hq => obtain rfl := (Option.some.inj hq : (a5, ((.object "LidCourt$Kept") : FieldType)) = q); exact ⟨ha5, hb5⟩
    | 6, hq => obtain rfl := (Option.some.inj hq : (a6, ((.object "LidCourt$Word") : FieldType)) = q); exact ⟨ha6, hb6⟩
    | k + 7, hq => simp [gT] at hq
  · show ∀ q ∈ gNs, va_Nw (.methodLinkNest q.1 q.2.1 q.2.2.1 q.2.2.2) s
    unfold gNs
    exact List.forall_mem_cons.mpr ⟨va_Nw.of rfl (hts (.methodLinkNest RX11 9 yX6_init "LidCourt") (List.mem_append_right _ (List.mem_of_getElem? (i := 36) (by decide +kernel)))), List.forall_mem_cons.mpr ⟨va_Nw.of rfl (hts (.methodLinkNest RX11 18 yX5_init "LidCourt") (List.mem_append_right _ (List.mem_of_getElem? (i := 81) (by decide +kernel)))), List.forall_mem_cons.mpr ⟨va_Nw.of rfl (hts (.methodLinkNest RX11 25 yX9_init "LidCourt") (List.mem_append_right _ (List.mem_of_getElem? (i := 177) (by decide +kernel)))), List.forall_mem_cons.mpr ⟨va_Nw.of rfl (hts (.methodLinkNest RX11 32 yX7_init "LidCourt") (List.mem_append_right _ (List.mem_of_getElem? (i := 232) (by decide +kernel)))), List.forall_mem_cons.mpr ⟨va_Nw.of rfl (hts (.methodLinkNest RX2 11 yX5_init "LidCourt") (List.mem_append_right _ (List.mem_of_getElem? (i := 266) (by decide +kernel)))), List.forall_mem_cons.mpr ⟨va_Nw.of rfl (hts (.methodLinkNest RX8 11 yX7_init "LidCourt") (List.mem_append_right _ (List.mem_of_getElem? (i := 310) (by decide +kernel)))), List.forall_mem_cons.mpr ⟨va_Nw.of rfl (hts (.methodLinkNest RX11 62 yX0_init "LidCourt") (List.mem_append_right _ (List.mem_of_getElem? (i := 325) (by decide +kernel)))), List.forall_mem_cons.mpr ⟨va_Nw.of rfl (hts (.methodLinkNest RX3 17 yX9_init "LidCourt") (List.mem_append_right _ (List.mem_of_getElem? (i := 358) (by decide +kernel)))), List.forall_mem_cons.mpr ⟨va_Nw.of rfl (hts (.methodLinkNest RX11 101 yX4_init "LidCourt") (List.mem_append_right _ (List.mem_of_getElem? (i := 381) (by decide +kernel)))), List.forall_mem_cons.mpr ⟨va_Nw.of rfl (hts (.methodLinkNest RX4 9 yX5_init "LidCourt") (List.mem_append_right _ (List.mem_of_getElem? (i := 386) (by decide +kernel)))), List.forall_mem_cons.mpr ⟨va_Nw.of rfl (hts (.methodLinkNest RX4 18 yX9_init "LidCourt") (List.mem_append_right _ (List.mem_of_getElem? (i := 388) (by decide +kernel)))), List.forall_mem_cons.mpr ⟨va_Nw.of rfl (hts (.methodLinkNest RX4 25 yX7_init "LidCourt") (List.mem_append_right _ (List.mem_of_getElem? (i := 390) (by decide +kernel)))), fun _ h => absurd h List.not_mem_nil⟩⟩⟩⟩⟩⟩⟩⟩⟩⟩⟩⟩
  · exact va_Nw.of rfl (hts (.fieldLinkNest "LidCourt$Reader" 69 "LidCourt" "WORDS" "[LLidCourt$Word;" "LidCourt") (List.mem_append_right _ (List.mem_of_getElem? (i := 548) (by decide +kernel))))
  · exact va_Nw.of rfl (hts (.fieldLinkNest "LidCourt$SentenceReader" 97 "LidCourt" "WORDS" "[LLidCourt$Word;" "LidCourt") (List.mem_append_right _ (List.mem_of_getElem? (i := 1080) (by decide +kernel))))
  · exact va_AO.of ho0
  · exact va_AO.of ho1
  · exact va_AO.of ho2
theorem OF_inj {o n d : String} {v w : Value} {t : Nat} {A : Nat → Prop} {U : State} {H : Heap} (h : va_OF o n d v t A U H) (g : va_OF o n d w t A U H) : v = w := by
  obtain ⟨cf, k, i, f, cell, h1, h2, h3, h4, h5, h6⟩ := h
  obtain ⟨cf', k', i', f', cell', g1, g2, g3, g4, g5, g6⟩ := g
  rw [h1] at g1
  cases g1
  rw [h3] at g3
  cases g3
  exact Option.some.inj (h5.symm.trans g5)
abbrev wdE : String := "LidCourt$Word"
abbrev wdD : String := "LLidCourt$Word;"
abbrev wdT : Term := .static "LidCourt" "WORDS" "[LLidCourt$Word;"
set_option maxRecDepth 100000 in
theorem wd_ex : ∀ i, i < 26 → Cond.exactly (.static wdE (wdn.getD i "") wdD) wdE ∈ flatC (Jvm.Cond.and given_1 narrow_1) := by decide +kernel
set_option maxRecDepth 100000 in
theorem wd_el : ∀ i, i < 26 → Cond.eq (.elem wdT (.int (Int32.ofNat i))) (.static wdE (wdn.getD i "") wdD) ∈ flatC (Jvm.Cond.and given_1 narrow_1) := by decide +kernel
set_option maxRecDepth 100000 in
theorem wd_le : ∀ i, i < 26 → Cond.eq (.field (.static wdE (wdn.getD i "") wdD) wdE "letters" "J") (.long (wdl.getD i 0)) ∈ flatC (Jvm.Cond.and given_1 narrow_1) := by decide +kernel
set_option maxRecDepth 100000 in
theorem wd_ls : ∀ i, i < 26 → Cond.laysStatic wdE (wdn.getD i "") wdD ∈ lw_tbl := by decide +kernel
theorem wd_dl : ∀ i, i < 26 → ∀ j, j < 26 → wdl.getD i 0 = wdl.getD j 0 → i = j := by decide +kernel
set_option maxRecDepth 100000 in
set_option maxHeartbeats 4000000 in
theorem law_gZ {args : Array Value} {s : State} {A : Nat → Prop} (hts : ∀ w ∈ lw_tbl, w.before args s = true) (hgv : (Jvm.Cond.and given_1 narrow_1).before args s = true) (hA : ∀ a : Nat, a < s.heap.size → ¬ A a) : ∃ (ad : Nat → Nat) (wt : Nat), gZ ad wt A s s.heap := by
  have hs := flat_of_before _ hgv
  have h0 : ∀ i : Nat, ∃ t : Nat, i < 26 → (Term.static wdE (wdn.getD i "") wdD).eval args s none [] s = some (.ref t) ∧ va_O wdE t A s s.heap := by
    intro i
    by_cases hi : i < 26
    · obtain ⟨a, c, cell, k, q1, q2, q3, q4, q5, q6, -⟩ := Cond.exactly_spec (hs _ (wd_ex i hi))
      exact ⟨a, fun _ => ⟨q1, cell, q3, q5, by rw [q6]; exact q2, hA a (Array.getElem?_eq_some_iff.mp q3).1⟩⟩
    · exact ⟨0, fun h => absurd h hi⟩
  obtain ⟨ad, had⟩ := Classical.axiomOfChoice h0
  have hlen : (Term.length wdT).eval args s none [] s = some (.int (Int32.ofNat 26)) := va_eqt (hs (.eq (.length wdT) (.int 26)) (by decide +kernel))
  obtain ⟨wt, hev, hT⟩ := va_Tof (tm := wdT) (ty := .object wdE) (N := 26) (f := fun i => .ref (ad i)) (A := A) (by decide) (hs (.arrayOf wdT (.object wdE)) (by decide +kernel)) hlen (fun j hj => va_eqv (hs _ (wd_el j hj)) (had j hj).1) hA
  have hin := hts (.initialized "LidCourt$Word") (List.mem_append_right _ (List.mem_of_getElem? (i := 15) (by decide +kernel)))
  have hiT := hts (.initialized "java/lang/Throwable") (List.mem_append_right _ (List.mem_of_getElem? (i := 17) (by decide +kernel)))
  have hL : gL ad A s s.heap := va_Efof (E := wdE) (d0 := wdD) (nm := wdn) (tm := fun i => .long (wdl.getD i 0)) (fun i hi => (had i hi).1) (fun i hi => hs _ (wd_le i hi)) (fun i hi => rfl) hA
  refine ⟨ad, wt, vx_Zqof (hts (.laysStatic "java/lang/Throwable" "UNASSIGNED_STACK" "[Ljava/lang/StackTraceElement;") (List.mem_append_right _ (List.mem_of_getElem? (i := 1220) (by decide +kernel)))) hiT (hs (.isRef (.static Bundle.tN "UNASSIGNED_STACK" Bundle.steD)) (by decide +kernel)) hA, vx_Zqof (hts (.laysStatic "java/lang/Throwable" "SUPPRESSED_SENTINEL" "Ljava/util/List;") (List.mem_append_right _ (List.mem_of_getElem? (i := 1222) (by decide +kernel)))) hiT (hs (.isRef (.static Bundle.tN "SUPPRESSED_SENTINEL" Bundle.listD)) (by decide +kernel)) hA, va_Zref (hts (.laysStatic "LidCourt" "WORDS" "[LLidCourt$Word;") (List.mem_append_right _ (List.mem_of_getElem? (i := 549) (by decide +kernel)))) (hts (.initialized "LidCourt") (List.mem_append_right _ (List.mem_of_getElem? (i := 1) (by decide +kernel)))) hev hA, hT, ⟨fun i hi => ⟨va_Zref (hts _ (wd_ls i hi)) hin (had i hi).1 hA, (had i hi).2⟩, fun i j hi hj e => wd_dl i hi j hj ?_⟩, hL, ?_⟩
  · have h1 := hL i hi
    have h2 := hL j hj
    rw [← e] at h2
    exact Value.long.inj (OF_inj h1 h2)
  · exact ⟨va_Nw.of rfl (hts (.castable "java/util/NoSuchElementException" "java/util/NoSuchElementException") (List.mem_append_right _ (List.mem_of_getElem? (i := 1195) (by decide +kernel)))), va_Nw.of rfl (hts (.declares (Bundle.init0 "java/lang/RuntimeException")) (List.mem_append_right _ (List.mem_of_getElem? (i := 1196) (by decide +kernel)))), va_Nw.of rfl (hts (.declares (Bundle.init0 "java/lang/Exception")) (List.mem_append_right _ (List.mem_of_getElem? (i := 1198) (by decide +kernel)))), va_Nw.of rfl (hts (.declares (Bundle.init0 Bundle.tN)) (List.mem_append_right _ (List.mem_of_getElem? (i := 1200) (by decide +kernel))))⟩
abbrev tmS (i : Nat) : Term := .string "LidCourt" ([314, 320, 322].getD i 0)
set_option maxRecDepth 100000 in
theorem ts_ex : ∀ i, i < 3 → Cond.exactly (tmS i) "java/lang/String" ∈ flatC (Jvm.Cond.and given_1 narrow_1) := by decide +kernel
set_option maxRecDepth 100000 in
theorem ts_co : ∀ i, i < 3 → Cond.eq (.field (tmS i) "java/lang/String" "coder" "B") (.int 0) ∈ flatC (Jvm.Cond.and given_1 narrow_1) := by decide +kernel
set_option maxRecDepth 100000 in
theorem ts_ar : ∀ i, i < 3 → Cond.arrayOf (.field (tmS i) "java/lang/String" "value" "[B") .byte ∈ flatC (Jvm.Cond.and given_1 narrow_1) := by decide +kernel
set_option maxRecDepth 100000 in
theorem ts_le : ∀ i, i < 3 → Cond.eq (.length (.field (tmS i) "java/lang/String" "value" "[B")) (.int (Int32.ofNat (slen.getD i 0))) ∈ flatC (Jvm.Cond.and given_1 narrow_1) := by decide +kernel
set_option maxRecDepth 100000 in
theorem ts_el : ∀ i, i < 3 → ∀ j, j < slen.getD i 0 → Cond.eq (.elem (.field (tmS i) "java/lang/String" "value" "[B") (.int (Int32.ofNat j))) (.int ((sbyt.getD i []).getD j 0)) ∈ flatC (Jvm.Cond.and given_1 narrow_1) := by decide +kernel
theorem T_len {ty : FieldType} {t N M : Nat} {f g : Nat → Value} {A : Nat → Prop} {U : State} {H : Heap} (h : va_T ty t N f A U H) (k : va_T ty t M g A U H) : Int32.ofNat N = Int32.ofNat M := by
  obtain ⟨cell, h1, h2, h3, h4, h5, h6⟩ := h
  obtain ⟨cell', g1, g2, g3, g4, g5, g6⟩ := k
  rw [h1] at g1
  cases g1
  exact h5.symm.trans g5
theorem sl_inj : ∀ i, i < 3 → ∀ j, j < 3 → Int32.ofNat (slen.getD i 0) = Int32.ofNat (slen.getD j 0) → i = j := by decide +kernel
set_option maxRecDepth 100000 in
set_option maxHeartbeats 4000000 in
theorem law_gS {args : Array Value} {s : State} {A : Nat → Prop} (hts : ∀ w ∈ lw_tbl, w.before args s = true) (hgv : (Jvm.Cond.and given_1 narrow_1).before args s = true) (hA : ∀ a : Nat, a < s.heap.size → ¬ A a) : ∃ sd : Nat → Nat, gS sd A s s.heap := by
  have hs := flat_of_before _ hgv
  have h0 : ∀ i : Nat, ∃ q : Nat × Nat, i < 3 → (tmS i).eval args s none [] s = some (.ref q.1) ∧ va_O "java/lang/String" q.1 A s s.heap ∧ va_OF "java/lang/String" "coder" "B" (.int 0) q.1 A s s.heap ∧ va_OF "java/lang/String" "value" "[B" (.ref q.2) q.1 A s s.heap ∧ va_T .byte q.2 (slen.getD i 0) (fun j => .int ((sbyt.getD i []).getD j 0)) A s s.heap := by
    intro i
    by_cases hi : i < 3
    · obtain ⟨a, c, cA, kA, q1, q2, q3, q4, q5, q6, -⟩ := Cond.exactly_spec (hs _ (ts_ex i hi))
      obtain ⟨t, ht, hT⟩ := va_Tof (f := fun j => .int ((sbyt.getD i []).getD j 0)) (A := A) (N := slen.getD i 0) (by rcases (show i = 0 ∨ i = 1 ∨ i = 2 by omega) with rfl | rfl | rfl <;> decide) (hs _ (ts_ar i hi)) (va_eqt (hs _ (ts_le i hi))) (fun j hj => va_eqt (hs _ (ts_el i hi j hj))) hA
      exact ⟨(a, t), fun _ => ⟨q1, ⟨cA, q3, q5, by rw [q6]; exact q2, hA a (Array.getElem?_eq_some_iff.mp q3).1⟩, vk_OFof q1 (va_eqt (hs _ (ts_co i hi))) hA, vk_OFof q1 ht hA, hT⟩⟩
    · exact ⟨(0, 0), fun h => absurd h hi⟩
  obtain ⟨ad, had⟩ := Classical.axiomOfChoice h0
  refine ⟨fun k => if k < 4 then (ad k).1 else (ad (k - 4)).2, ⟨fun i hi => ?_, fun i j hi hj e => ?_⟩, ⟨?_, ?_, ?_⟩, ?_, ?_⟩
  · simp only [if_pos (show i < 4 by omega), if_neg (show ¬ i + 4 < 4 by omega), Nat.add_sub_cancel]
    exact (had i hi).2
  · simp only [if_pos (show i < 4 by omega), if_pos (show j < 4 by omega)] at e
    have h1 := (had i hi).2.2.2.1
    have h2 := (had j hj).2.2.2.1
    rw [← e] at h2
    have h3 : (ad i).2 = (ad j).2 := Value.ref.inj (OF_inj h1 h2)
    have h4 := (had i hi).2.2.2.2
    rw [h3] at h4
    exact sl_inj i hi j hj (T_len h4 (had j hj).2.2.2.2)
  · exact vk_R.of (hts (.stringRef "LidCourt" 314 " is open") (List.mem_append_right _ (List.mem_of_getElem? (i := 909) (by decide +kernel)))) (had 0 (by decide)).1
  · exact vk_R.of (hts (.stringRef "LidCourt" 320 " is free by ") (List.mem_append_right _ (List.mem_of_getElem? (i := 962) (by decide +kernel)))) (had 1 (by decide)).1
  · exact vk_R.of (hts (.stringRef "LidCourt" 322 " is guilty by ") (List.mem_append_right _ (List.mem_of_getElem? (i := 963) (by decide +kernel)))) (had 2 (by decide)).1
  · exact va_Zof (hts (.laysStatic "java/lang/String" "COMPACT_STRINGS" "Z") (List.mem_append_right _ (List.mem_of_getElem? (i := 923) (by decide +kernel)))) (hts (.initialized "java/lang/String") (List.mem_append_right _ (List.mem_of_getElem? (i := 22) (by decide +kernel)))) (va_eqi (hs (.eq (.static "java/lang/String" "COMPACT_STRINGS" "Z") (.int 1)) (by decide +kernel))) hA
  · exact va_Zqof (hts (.laysStatic "jdk/internal/util/Preconditions" "SIOOBE_FORMATTER" "Ljava/util/function/BiFunction;") (List.mem_append_right _ (List.mem_of_getElem? (i := 939) (by decide +kernel)))) (hts (.initialized "jdk/internal/util/Preconditions") (List.mem_append_right _ (List.mem_of_getElem? (i := 24) (by decide +kernel)))) (hs (.isRef (.static "jdk/internal/util/Preconditions" "SIOOBE_FORMATTER" "Ljava/util/function/BiFunction;")) (by decide +kernel)) hA
