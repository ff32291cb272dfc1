/-! THE TEXTS of the class: String constants -/
def slen : List Nat := [8, 12, 14]
def sbyt : List (List Int32) := [[32, 105, 115, 32, 111, 112, 101, 110], [32, 105, 115, 32, 102, 114, 101, 101, 32, 98, 121, 32], [32, 105, 115, 32, 103, 117, 105, 108, 116, 121, 32, 98, 121, 32]]
def gS (sd : Nat → Nat) (A : Nat → Prop) (U : State) (H : Heap) : Prop := vk_S 3 slen sbyt (fun i => sd i) (fun i => sd (i + 4)) A U H ∧ (vk_R "LidCourt" 314 " is open" (sd 0) U ∧ vk_R "LidCourt" 320 " is free by " (sd 1) U ∧ vk_R "LidCourt" 322 " is guilty by " (sd 2) U) ∧ va_Z "java/lang/String" "COMPACT_STRINGS" "Z" (.int 1) A U H ∧ va_Zq "jdk/internal/util/Preconditions" "SIOOBE_FORMATTER" "Ljava/util/function/BiFunction;" A U H
theorem gS.moved {sd : Nat → Nat} {A : Nat → Prop} {s U : State} {H : Heap} (hW : s.vm.Alike U.vm) (hR : ∀ (o : String) (k : Nat) (t : String) (a : Nat), vk_R o k t a s → vk_R o k t a U) (h : gS sd A s H) : gS sd A U H :=
  ⟨vk_S.moved hW h.1, ⟨hR _ _ _ _ h.2.1.1, hR _ _ _ _ h.2.1.2.1, hR _ _ _ _ h.2.1.2.2⟩, va_Z.moved hW h.2.2.1, va_Zq.moved hW h.2.2.2⟩
theorem gS.kept {sd : Nat → Nat} {A : Nat → Prop} {U : State} {H H1 : Heap} (h : gS sd A U H) (hq : ∀ a : Nat, a < H.size → ¬ A a → H1[a]? = H[a]?) : gS sd A U H1 :=
  ⟨vk_S.kept h.1 hq, h.2.1, va_Z.kept h.2.2.1 hq, va_Zq.kept h.2.2.2 hq⟩
theorem gS.narrow {sd : Nat → Nat} {A B : Nat → Prop} {U : State} {H : Heap} (h : gS sd A U H) (hAB : ∀ q, B q → A q) : gS sd B U H :=
  ⟨vk_S.narrow h.1 hAB, h.2.1, va_Z.narrow h.2.2.1 hAB, va_Zq.narrow h.2.2.2 hAB⟩
def tP (D : va_G) (ca : Nat → ClassId) (ad : Nat → Nat) (wt : Nat) (sd : Nat → Nat) (sz : Nat) (W0 : va_W) : State → Prop := fun U => sP D ca ad wt sz W0 U ∧ gS sd (va_A W0 sz) U U.heap
abbrev tMet (l : Launch) (y : MethodName) (ws : List Cond) (rm : Room) (av : List Value) (D : va_G) (ca : Nat → ClassId) (ad : Nat → Nat) (wt : Nat) (sd : Nat → Nat) (sz : Nat) (W0 : va_W) (Qc : oQT) (mc ms : Nat) : Prop :=
  Met l y ws rm (va_Pc av (tP D ca ad wt sd sz W0)) (Qc (va_A W0 sz)) mc ms (va_A W0 sz)
theorem tP.blind {D : va_G} {ca : Nat → ClassId} {ad : Nat → Nat} {wt : Nat} {sd : Nat → Nat} {sz : Nat} {W0 : va_W} {av : List Value} : FrameBlind (va_Pc av (tP D ca ad wt sd sz W0)) :=
  fun a U g mk q => ⟨q.1, (sP.blind a U g mk ⟨q.1, q.2.1⟩).2, gS.moved (s := U) (U := U.calling g mk a) (Vm.Alike.refl U.vm) (fun _ _ _ _ h => vk_R.same rfl h) q.2.2⟩
theorem tM {l : Launch} {y : MethodName} {ws ws' : List Cond} {rm : Room} {av : List Value} {D : va_G} {ca : Nat → ClassId} {ad : Nat → Nat} {wt : Nat} {sd : Nat → Nat} {sz : Nat} {W0 : va_W} {Qc : oQT} {mc ms : Nat} {cc : ByteArray} {maxL : Nat} {ret : Option FieldType}
    (hy : plainName y.cls = true) (hw : ws = Cond.code y cc maxL ret :: ws') (hlen : (lg_sl av).length ≤ maxL) (lv : List (Nat × Value)) (hlv : lv_args 0 av = lv)
    (body : ∀ (p : Program) (e : Env) (s : State) (m : MethodId) (below : List Frame) (meth : Method) (c : Code) (A : Nat → Prop) (H : Heap) (locs : List Loc) (ls : Array Slot), p.tables.exec = Jvm.exec → c.code = cc → meth.sig.returnType = ret → c.maxLocals = maxL → (∀ w ∈ ws, w.before av.toArray s = true) → s.vm.findClass y.cls = some m.cls → meth.locks = false → meth.name = y.name → gC D ca s →
      va_P D vwCl W0 H → va_D A W0 → (∀ q : Nat, s.heap.size ≤ q → A q) → va_S A s.heap H locs → lv_has ls maxL lv → gZ ad wt A s s.heap → gS sd A s s.heap → W p l e rm s m av.toArray below meth c H locs 0 0 (MQ below (Qc A) av.toArray s mc ms A) (F0 m 0 ls [])) :
    tMet l y ws rm av D ca ad wt sd sz W0 Qc mc ms := by
  refine Met.ofW (cc := cc) (maxL := maxL) (ret := ret) hy hw ?_
  intro p e s m args below meth c s₁ B hml hv
  obtain ⟨rfl, ⟨⟨hsz, hP, hK, hD0⟩, hZ⟩, hT⟩ := hv
  have hts := atoms_spec (ws := ws) B.pre
  rw [lg_entry_eq]
  have hl := lv_entry av (n := maxL) hlen
  rw [hlv] at hl
  exact body p e s m below meth c (va_A W0 sz) s.heap [] _ B.exec B.bytes B.returns hml hts (findClass_of_methodNamed B.named) B.notSynchronized (name_of_methodNamed B.named B.method).1 hK hP hD0.self (fun q h => Or.inr (by rw [← hsz]; exact h)) va_S.rf hl hZ hT
section OWNT
variable {p : Program} {l : Launch} {e : Env} {R : Room} {s : State} {m : MethodId} {args : Array Value} {below : List Frame} {meth : Method} {c : Code} {H : Heap} {locs : List Loc} {cells slots : Nat} {Q : State → Prop}
variable {cc : ByteArray} {pc : Nat} {ls : Array Slot} {rest : List Value} {D : va_G} {ca : Nat → ClassId} {ad : Nat → Nat} {wt : Nat} {sd : Nat → Nat} {A : Nat → Prop} {Wa Wc : va_W}
theorem gS.here {U : State} (hT : gS sd A s s.heap) (hD : va_D A Wa) (hS : va_S A s.heap H locs) (hA : ∀ q : Nat, s.heap.size ≤ q → A q) (isC : List Nat) (hC : isC.map (fun i => Wa[i]?) = Wc.map some) (hU : U.heap = H) (hW : s.WarmedH U.vm) : gS sd (va_A Wc H.size) U U.heap := by
  rw [hU]
  exact ((hT.kept hS.2.1).narrow (va_free (wc := Wc) hD hS hA isC hC)).moved hW.alike (fun _ _ _ _ h => vk_R.warm hW h)
theorem tPS {As : List Value} (hT : gS sd A s s.heap) (hZ : gZ ad wt A s s.heap) (hS : va_S A s.heap H locs) (hA : ∀ q : Nat, s.heap.size ≤ q → A q) (hK : gC D ca s) (hP : va_P D vwCl Wa H) (hD : va_D A Wa) (isC : List Nat) (hC : isC.map (fun i => Wa[i]?) = Wc.map some) (hn : va_nd isC = true) :
    PreS s H (va_Pc As (tP D ca ad wt sd H.size Wc)) As :=
  ⟨tP.blind, fun U hU hW => ⟨rfl, ((sPS (As := As) hZ hS hA hK hP hD isC hC hn).2 U hU hW).2, hT.here hD hS hA isC hC hU hW⟩⟩
theorem tPV {C : String} {b : Nat} {As : List Value} {ci : Nat} {r : vw_C} {fs : List Value} (hT : gS sd A s s.heap) (hZ : gZ ad wt A s s.heap) (hS : va_S A s.heap H locs) (hA : ∀ q : Nat, s.heap.size ≤ q → A q) (hK : gC D ca s) (hP : va_P D vwCl Wa H) (hD : va_D A Wa) (isC : List Nat) (hC : isC.map (fun i => Wa[i]?) = Wc.map some) (hn : va_nd isC = true) (qr : Nat) (hrv : Wc[qr]? = some (b, .inr (ci, fs))) (hcl : vwCl[ci]? = some r) (hCr : r.1 = C) :
    PreV s H C b (va_Pc (.ref b :: As) (tP D ca ad wt sd H.size Wc)) As :=
  ⟨tP.blind, (sPV (As := As) hZ hS hA hK hP hD isC hC hn qr hrv hcl hCr).2.1, fun U hU hW => ⟨rfl, ((sPV (As := As) hZ hS hA hK hP hD isC hC hn qr hrv hcl hCr).2.2 U hU hW).2, hT.here hD hS hA isC hC hU hW⟩⟩
/-- a text is the receiver -/
theorem tPK {As : List Value} (k : Nat) (hk : k < 3) (hT : gS sd A s s.heap) (hZ : gZ ad wt A s s.heap) (hS : va_S A s.heap H locs) (hA : ∀ q : Nat, s.heap.size ≤ q → A q) (hK : gC D ca s) (hP : va_P D vwCl Wa H) (hD : va_D A Wa) (isC : List Nat) (hC : isC.map (fun i => Wa[i]?) = Wc.map some) (hn : va_nd isC = true) :
    PreV s H "java/lang/String" (sd k) (va_Pc (.ref (sd k) :: As) (tP D ca ad wt sd H.size Wc)) As :=
  ⟨tP.blind, vk_recv hT.1 hk hS, fun U hU hW => ⟨rfl, ((sPS (As := .ref (sd k) :: As) hZ hS hA hK hP hD isC hC hn).2 U hU hW).2, hT.here hD hS hA isC hC hU hW⟩⟩
theorem va_ldcwS (hx : p.tables.exec = Jvm.exec) (hb : c.code = cc) {own tx : String} {index q : Nat} (hown : s.vm.findClass own = some m.cls) (hZ : vk_R own index tx q s) (hdg : decode cc pc = .ok (.ldc_w index, 3))
    (k : W p l e R s m args below meth c H locs cells slots Q (F0 m (pc + 3) ls (.ref q :: rest))) : W p l e R s m args below meth c H locs cells slots Q (F0 m pc ls rest) := by
  intro T hT X
  obtain ⟨t, a1, b1⟩ := k T hT X
  obtain ⟨k0, cf, i, a', hk, hcf, hcp, -, hr, hev'⟩ := Cond.stringRef_spec hown hZ.1
  cases hZ.2.symm.trans hev'
  obtain ⟨k', hk', he⟩ := X.warmed.alike.2.2 _ _ hk
  have hr' : k'.resolved[index]? = some (some (.string q)) := by
    rcases X.warmed.entry hk hk' index with h | ⟨h, -⟩
    · rw [h]; exact hr
    · rw [hr] at h; cases h
  have hdg' : decode c.code (F0 m pc ls rest).pc = .ok (.ldc_w index, 3) := by rw [hb]; exact hdg
  refine ⟨t, ?_, b1⟩
  jvm_step X.here [hx, hdg', ldc_w.wp_string (e := e) (s := T) (f := F0 m pc ls rest) X.here.top hk' (by rw [he]; exact hcf) hcp hr']
  exact a1
end OWNT
theorem nar_c {v x : Int32} (e : v = (x.toUInt32 % 65536).toInt32) : narrow .char (.int v) = .int v := by
  have e2 : v.toBitVec.toNat = x.toUInt32.toNat % 65536 := by
    rw [e]
    show (x.toUInt32 % 65536).toNat = _
    rw [UInt32.toNat_mod]
    rfl
  have h := Nat.mod_lt x.toUInt32.toNat (show 65536 > 0 by decide)
  have e3 := tNs (x := v) (by omega)
  show Value.int (v.toUInt32.toUInt16.toUInt32.toInt32) = _
  rw [lg_i2c_small (by omega) (by omega)]
