theorem dL_law_23 : decode cL_law 23 = .ok (.iload 4, 2) := by decide +kernel
theorem dL_law_25 : decode cL_law 25 = .ok (.aload_n 0, 1) := by decide +kernel
theorem dL_law_26 : decode cL_law 26 = .ok (.arraylength, 1) := by decide +kernel
theorem dL_law_27 : decode cL_law 27 = .ok (.bipush 6, 2) := by decide +kernel
theorem dL_law_29 : decode cL_law 29 = .ok (.isub, 1) := by decide +kernel
theorem dL_law_30 : decode cL_law 30 = .ok (.if_icmp .gt 1536, 3) := by decide +kernel
theorem dL_law_1560 : decode cL_law 1560 = .ok (.iinc 4 6, 3) := by decide +kernel
theorem dL_law_1563 : decode cL_law 1563 = .ok (.goto (-1540), 3) := by decide +kernel
theorem dL_law_1566 : decode cL_law 1566 = .ok (.iconst 1, 1) := by decide +kernel
theorem dL_law_1567 : decode cL_law 1567 = .ok (.ireturn, 1) := by decide +kernel
set_option maxHeartbeats 4000000 in
set_option maxRecDepth 100000 in
theorem law_end {p : Program} {e : Env} {s : State} {m : MethodId} {below : List Frame} {meth : Method} {c : Code} (l : Launch) (hl0 : l.stackTraces = false) (D : va_G) (ca : Nat → ClassId) (ad : Nat → Nat) (wt : Nat) {b : Nat} {xs : Nat → Int32} {A : Nat → Prop} (C0 : lw_At p s m meth c b 6 xs) (hA : ∀ q : Nat, s.heap.size ≤ q → A q) (hA' : ∀ q : Nat, A q → s.heap.size ≤ q) (H : Heap) (locs : List Loc) (ls : Array Slot) (hS : va_S A s.heap H locs) (hl : lv_has ls 8 [(4, .int 0), (0, .ref b)]) {cells slots : Nat} (hc : cells ≤ 600002) (hsl : slots ≤ 7302232) : W p l e room_1 s m #[Value.ref b] below meth c H locs cells slots (lw_Z below #[Value.ref b] s) (F0 m 1560 ls []) := by
  obtain ⟨hx, hb, hr, hml, hown, hts0, hX, hbl, hlocks, hgv⟩ := C0
  have hts := hts0
  have hown : s.vm.findClass RL = some m.cls := hown
  have hbA : ¬ A b := fun q => absurd (hA' b q) (Nat.not_le.mpr hbl)
  refine lv_iinc (v := 6) (lv' := [(4, .int 6), (0, .ref b)]) hx hb dL_law_1560 hl (k := 0) rfl (by decide) (by decide) rfl (fun ls hl => ?_)
  refine lv_goto (tgt := 23) hx hb dL_law_1563 (by decide) ?_
  refine lv_iload hx hb dL_law_23 (lv_at hl 0 rfl) ?_
  refine lv_aload_n hx hb dL_law_25 rfl (lv_at hl 1 rfl) ?_
  refine va_slen hx hb hX hbl hbA hS dL_law_26 ?_
  refine oti 6 (by decide) ?_
  refine lv_bipush (v := 6) hx hb dL_law_27 (by decide) ?_
  refine lv_isub hx hb dL_law_29 ?_
  refine oti 0 (by decide) ?_
  refine lv_icmp_gt (tgt := 1566) hx hb dL_law_30 (by decide) (fun _ => ?_) (fun c => absurd (by decide) c)
  refine lv_iconst (v := 1) hx hb dL_law_1566 (by decide) ?_
  refine va_forget (fun q hq => hA' _ (hS.2.2 q hq)) ?_
  refine W.widen (k := 600002) (n := 7302232) hc hsl ?_
  exact lw_ret hx hb hr hlocks dL_law_1567
