/-! OWN ROWS: the fixed tables of all worlds, contracts and calls in one form -/
def gT (ca : Nat → ClassId) : List (ClassId × FieldType) := [(ca 0, .int), (ca 1, .long), (ca 2, .boolean), (ca 3, .char), (ca 4, .object "LidCourt$Standing"), (ca 5, .object "LidCourt$Kept"), (ca 6, .object "LidCourt$Word")]
abbrev aI (ca : Nat → ClassId) (q n : Nat) (f : Nat → Int32) : Nat × va_E := (q, .inl (ca 0, n, .inl f))
abbrev aJ (ca : Nat → ClassId) (q n : Nat) (f : Nat → Int64) : Nat × va_E := (q, .inl (ca 1, n, .inr (.inl f)))
abbrev aZ (ca : Nat → ClassId) (q n : Nat) (f : Nat → Int32) : Nat × va_E := (q, .inl (ca 2, n, .inl f))
abbrev aC (ca : Nat → ClassId) (q n : Nat) (f : Nat → Int32) : Nat × va_E := (q, .inl (ca 3, n, .inl f))
abbrev aS (ca : Nat → ClassId) (q n : Nat) (f : Nat → Option Nat) : Nat × va_E := (q, .inl (ca 4, n, .inr (.inr (.inr (.inr f)))))
abbrev aK (ca : Nat → ClassId) (q n : Nat) (f : Nat → Option Nat) : Nat × va_E := (q, .inl (ca 5, n, .inr (.inr (.inr (.inr f)))))
abbrev aW (ca : Nat → ClassId) (q n : Nat) (f : Nat → Option Nat) : Nat × va_E := (q, .inl (ca 6, n, .inr (.inr (.inr (.inr f)))))
/-- private constructors that a nest mate calls -/
def gNs : List (String × Nat × MethodName × String) := [("LidCourt", 9, yX6_init, "LidCourt"), ("LidCourt", 18, yX5_init, "LidCourt"), ("LidCourt", 25, yX9_init, "LidCourt"), ("LidCourt", 32, yX7_init, "LidCourt"), ("LidCourt$CourtReader", 11, yX5_init, "LidCourt"), ("LidCourt$SentenceReader", 11, yX7_init, "LidCourt"), ("LidCourt", 62, yX0_init, "LidCourt"), ("LidCourt$History", 17, yX9_init, "LidCourt"), ("LidCourt", 101, yX4_init, "LidCourt"), ("LidCourt$Kept", 9, yX5_init, "LidCourt"), ("LidCourt$Kept", 18, yX9_init, "LidCourt"), ("LidCourt$Kept", 25, yX7_init, "LidCourt")]
def gN (U : State) : Prop := ∀ q ∈ gNs, va_Nw (.methodLinkNest q.1 q.2.1 q.2.2.1 q.2.2.2) U
def gF (U : State) : Prop := va_Nw (.fieldLinkNest "LidCourt$Reader" 69 "LidCourt" "WORDS" "[LLidCourt$Word;" "LidCourt") U ∧ va_Nw (.fieldLinkNest "LidCourt$SentenceReader" 97 "LidCourt" "WORDS" "[LLidCourt$Word;" "LidCourt") U
def gO (U : State) : Prop := va_AO "LidCourt$Standing" U ∧ va_AO "LidCourt$Kept" U ∧ va_AO "LidCourt$Word" U
/-- all that the tables say, of every state -/
def gC (D : va_G) (ca : Nat → ClassId) (U : State) : Prop := va_K D vwCl (gT ca) U ∧ gN U ∧ gF U ∧ gO U
theorem gC.warm {D : va_G} {ca : Nat → ClassId} {s U : State} (h : gC D ca s) (hW : s.WarmedH U.vm) : gC D ca U :=
  ⟨va_K.moved hW.alike h.1, fun q hq => va_Nw.warmM hW (h.2.1 q hq), ⟨va_Nw.warmF hW h.2.2.1.1, va_Nw.warmF hW h.2.2.1.2⟩, va_AO.moved hW.alike h.2.2.2.1, va_AO.moved hW.alike h.2.2.2.2.1, va_AO.moved hW.alike h.2.2.2.2.2⟩
theorem gC.call {D : va_G} {ca : Nat → ClassId} {U : State} {g : JFrame} {mk : MethodId} {a : Array Value} (h : gC D ca U) : gC D ca (U.calling g mk a) :=
  ⟨va_K.moved (u := U) (U := U.calling g mk a) (Vm.Alike.refl U.vm) h.1, fun q hq => va_Nw.same rfl (u := U) (U := U.calling g mk a) rfl (h.2.1 q hq), ⟨va_Nw.same rfl (u := U) (U := U.calling g mk a) rfl h.2.2.1.1, va_Nw.same rfl (u := U) (U := U.calling g mk a) rfl h.2.2.1.2⟩, va_AO.moved (u := U) (U := U.calling g mk a) (Vm.Alike.refl U.vm) h.2.2.2.1, va_AO.moved (u := U) (U := U.calling g mk a) (Vm.Alike.refl U.vm) h.2.2.2.2.1, va_AO.moved (u := U) (U := U.calling g mk a) (Vm.Alike.refl U.vm) h.2.2.2.2.2⟩
theorem ra_inj {U : State} {cA cB : ClassId} {ty : FieldType} (h1 : va_RA U cA ty) (h2 : va_RA U cB ty) : cA = cB := by
  cases ty with
  | object C =>
    obtain ⟨_, _, _, _, _, h4⟩ := h1
    obtain ⟨_, _, _, _, _, g4⟩ := h2
    exact Option.some.inj (h4.symm.trans g4)
  | _ => exact Option.some.inj (Eq.trans (Eq.symm h1) h2)
/-- a method's start and end -/
def oP (D : va_G) (ca : Nat → ClassId) (sz : Nat) (W0 : va_W) : State → Prop := fun U => U.heap.size = sz ∧ va_P D vwCl W0 U.heap ∧ gC D ca U ∧ va_D (fun _ => True) W0
def oQ (D : va_G) (A : Nat → Prop) (W1 : va_W) (t : State) : Prop := va_P D vwCl W1 t.heap ∧ va_D A W1
abbrev oQT : Type := (Nat → Prop) → Array Value → State → Outcome → State → Prop
abbrev oQi {S : Type} (D : va_G) (post : Int32 → S → Prop) (W1 : S → va_W) : oQT := fun A => va_Qi post (fun u t => oQ D A (W1 u) t) A
abbrev oQl {S : Type} (D : va_G) (post : Int64 → S → Prop) (W1 : S → va_W) : oQT := fun A => va_Ql post (fun u t => oQ D A (W1 u) t) A
abbrev oQv {S : Type} (D : va_G) (post : S → Prop) (W1 : S → va_W) : oQT := fun A => va_Qv post (fun u t => oQ D A (W1 u) t) A
abbrev oQq {S : Type} (D : va_G) (post : Option Nat → S → Prop) (W1 : S → va_W) : oQT := fun A => va_Qq post (fun u t => oQ D A (W1 u) t) A
abbrev oMet (l : Launch) (y : MethodName) (ws : List Cond) (rm : Room) (av : List Value) (D : va_G) (ca : Nat → ClassId) (sz : Nat) (W0 : va_W) (Qc : oQT) (mc ms : Nat) : Prop :=
  Met l y ws rm (va_Pc av (oP D ca sz W0)) (Qc (va_A W0 sz)) mc ms (va_A W0 sz)
theorem oP.blind {D : va_G} {ca : Nat → ClassId} {sz : Nat} {W0 : va_W} {av : List Value} : FrameBlind (va_Pc av (oP D ca sz W0)) :=
  fun _ _ _ _ q => ⟨q.1, q.2.1, q.2.2.1, q.2.2.2.1.call, q.2.2.2.2⟩
theorem oPsub {D : va_G} {Wa Wc : va_W} {H : Heap} (h : va_P D vwCl Wa H) (is : List Nat) (hs : is.map (fun i => Wa[i]?) = Wc.map some) : va_P D vwCl Wc H := by
  intro k q hk
  have h1 : (is.map (fun i => Wa[i]?))[k]? = some (some q) := by rw [hs, List.getElem?_map, hk]; rfl
  rw [List.getElem?_map] at h1
  cases hi : is[k]? with
  | none => rw [hi] at h1; cases h1
  | some i => rw [hi] at h1; exact h i q (Option.some.inj h1)
/-- a body begins -/
theorem oM {l : Launch} {y : MethodName} {ws ws' : List Cond} {rm : Room} {av : List Value} {D : va_G} {ca : Nat → ClassId} {sz : Nat} {W0 : va_W} {Qc : oQT} {mc ms : Nat} {cc : ByteArray} {maxL : Nat} {ret : Option FieldType}
    (hy : plainName y.cls = true) (hw : ws = Cond.code y cc maxL ret :: ws') (hlen : (lg_sl av).length ≤ maxL) (lv : List (Nat × Value)) (hlv : lv_args 0 av = lv)
    (body : ∀ (p : Program) (e : Env) (s : State) (m : MethodId) (below : List Frame) (meth : Method) (c : Code) (A : Nat → Prop) (H : Heap) (locs : List Loc) (ls : Array Slot), p.tables.exec = Jvm.exec → c.code = cc → meth.sig.returnType = ret → c.maxLocals = maxL → (∀ w ∈ ws, w.before av.toArray s = true) → s.vm.findClass y.cls = some m.cls → meth.locks = false → meth.name = y.name → gC D ca s →
      va_P D vwCl W0 H → va_D A W0 → (∀ q : Nat, s.heap.size ≤ q → A q) → va_S A s.heap H locs → lv_has ls maxL lv → W p l e rm s m av.toArray below meth c H locs 0 0 (MQ below (Qc A) av.toArray s mc ms A) (F0 m 0 ls [])) :
    oMet l y ws rm av D ca sz W0 Qc mc ms := by
  refine Met.ofW (cc := cc) (maxL := maxL) (ret := ret) hy hw ?_
  intro p e s m args below meth c s₁ B hml hv
  obtain ⟨rfl, hsz, hP, hK, hD0⟩ := hv
  have hts := atoms_spec (ws := ws) B.pre
  rw [lg_entry_eq]
  have hl := lv_entry av (n := maxL) hlen
  rw [hlv] at hl
  exact body p e s m below meth c (va_A W0 sz) s.heap [] _ B.exec B.bytes B.returns hml hts (findClass_of_methodNamed B.named) B.notSynchronized (name_of_methodNamed B.named B.method).1 hK hP hD0.self (fun q h => Or.inr (by rw [← hsz]; exact h)) va_S.rf hl
section OWN
variable {p : Program} {l : Launch} {e : Env} {R : Room} {s : State} {m : MethodId} {args : Array Value} {below : List Frame} {meth : Method} {c : Code} {H : Heap} {locs : List Loc} {cells slots : Nat} {Q : State → Prop}
variable {cc : ByteArray} {pc : Nat} {ls : Array Slot} {rest st0 : List Value} {D : va_G} {ca : Nat → ClassId} {A : Nat → Prop} {a : Array Value} {Wa Wc Wr : va_W} {mc ms : Nat} {H0 : Heap}
theorem oti {x : Int32} (y : Int32) (h : x = y) (k : W p l e R s m args below meth c H locs cells slots Q (F0 m pc ls (.int y :: rest))) : W p l e R s m args below meth c H locs cells slots Q (F0 m pc ls (.int x :: rest)) := h ▸ k
theorem otl {x : Int64} (y : Int64) (h : x = y) (k : W p l e R s m args below meth c H locs cells slots Q (F0 m pc ls (.long y :: rest))) : W p l e R s m args below meth c H locs cells slots Q (F0 m pc ls (.long x :: rest)) := h ▸ k
theorem otr {x : Value} (y : Value) (h : x = y) (k : W p l e R s m args below meth c H locs cells slots Q (F0 m pc ls (y :: rest))) : W p l e R s m args below meth c H locs cells slots Q (F0 m pc ls (x :: rest)) := h ▸ k
/-- the callee's start, out of the caller's world -/
theorem oPV {C : String} {b : Nat} {As : List Value} {ci : Nat} {r : vw_C} {fs : List Value} (hK : gC D ca s) (hP : va_P D vwCl Wa H) (hD : va_D A Wa) (isC : List Nat) (hC : isC.map (fun i => Wa[i]?) = Wc.map some) (hn : va_nd isC = true) (qr : Nat) (hrv : Wc[qr]? = some (b, .inr (ci, fs))) (hcl : vwCl[ci]? = some r) (hCr : r.1 = C) :
    PreV s H C b (va_Pc (.ref b :: As) (oP D ca H.size Wc)) As := by
  subst hCr
  exact ⟨oP.blind, va_recv hK.1 (oPsub hP isC hC) hcl hrv, fun U hU hW => ⟨rfl, by rw [hU], by rw [hU]; exact oPsub hP isC hC, hK.warm hW, (hD.sub isC hn hC).weaken (fun _ _ _ _ => trivial)⟩⟩
theorem oPS {As : List Value} (hK : gC D ca s) (hP : va_P D vwCl Wa H) (hD : va_D A Wa) (isC : List Nat) (hC : isC.map (fun i => Wa[i]?) = Wc.map some) (hn : va_nd isC = true) :
    PreS s H (va_Pc As (oP D ca H.size Wc)) As :=
  ⟨oP.blind, fun U hU hW => ⟨rfl, by rw [hU], by rw [hU]; exact oPsub hP isC hC, hK.warm hW, (hD.sub isC hn hC).weaken (fun _ _ _ _ => trivial)⟩⟩
theorem oC_i {S : Type} {post : Int32 → S → Prop} {W1 : S → va_W} (hr : va_Run p l e R s m args below meth c H locs cells slots mc ms (F0 m pc ls st0) rest (oQi D post W1 (va_A Wc H.size) a) (va_A Wc H.size))
    (hP : va_P D vwCl Wa H) (hD : va_D A Wa) (hS : va_S A H0 H locs) (hA : ∀ q : Nat, H0.size ≤ q → A q) (isC isR : List Nat) (hC : isC.map (fun i => Wa[i]?) = Wc.map some) (hR : isR.map (fun i => Wa[i]?) = Wr.map some) (hn : va_nd isR = true) (hdis : ∀ i ∈ isR, i ∉ isC)
    (kk : ∀ (r : Int32) (u : S) (H1 : Heap) (locs1 : List Loc), post r u → va_P D vwCl (Wr ++ W1 u) H1 → va_D A (Wr ++ W1 u) → va_S A H0 H1 locs1 → W p l e R s m args below meth c H1 locs1 (cells + mc) (slots + ms) Q (F0 m (pc + 3) ls (.int r :: rest))) :
    W p l e R s m args below meth c H locs cells slots Q (F0 m pc ls st0) := by
  have hFc := va_free (wc := Wc) hD hS hA isC hC
  refine va_calli hr hS (fun q _ h => hFc q h) hFc (fun r u t H1 locs1 ht hvm hw hB hz1 hk1 hS1 => ?_)
  obtain ⟨hP1, hD1⟩ := hB
  rw [ht] at hP1
  obtain ⟨hP2, hD2⟩ := va_join (wr := Wr) (w1 := W1 u) hP hD isC isR hC hR hn hdis hk1 hFc hP1 hD1
  exact kk r u H1 locs1 hw hP2 hD2 hS1
theorem oC_l {S : Type} {post : Int64 → S → Prop} {W1 : S → va_W} (hr : va_Run p l e R s m args below meth c H locs cells slots mc ms (F0 m pc ls st0) rest (oQl D post W1 (va_A Wc H.size) a) (va_A Wc H.size))
    (hP : va_P D vwCl Wa H) (hD : va_D A Wa) (hS : va_S A H0 H locs) (hA : ∀ q : Nat, H0.size ≤ q → A q) (isC isR : List Nat) (hC : isC.map (fun i => Wa[i]?) = Wc.map some) (hR : isR.map (fun i => Wa[i]?) = Wr.map some) (hn : va_nd isR = true) (hdis : ∀ i ∈ isR, i ∉ isC)
    (kk : ∀ (r : Int64) (u : S) (H1 : Heap) (locs1 : List Loc), post r u → va_P D vwCl (Wr ++ W1 u) H1 → va_D A (Wr ++ W1 u) → va_S A H0 H1 locs1 → W p l e R s m args below meth c H1 locs1 (cells + mc) (slots + ms) Q (F0 m (pc + 3) ls (.long r :: rest))) :
    W p l e R s m args below meth c H locs cells slots Q (F0 m pc ls st0) := by
  have hFc := va_free (wc := Wc) hD hS hA isC hC
  refine va_calll hr hS (fun q _ h => hFc q h) hFc (fun r u t H1 locs1 ht hvm hw hB hz1 hk1 hS1 => ?_)
  obtain ⟨hP1, hD1⟩ := hB
  rw [ht] at hP1
  obtain ⟨hP2, hD2⟩ := va_join (wr := Wr) (w1 := W1 u) hP hD isC isR hC hR hn hdis hk1 hFc hP1 hD1
  exact kk r u H1 locs1 hw hP2 hD2 hS1
theorem oC_v {S : Type} {post : S → Prop} {W1 : S → va_W} (hr : va_Run p l e R s m args below meth c H locs cells slots mc ms (F0 m pc ls st0) rest (oQv D post W1 (va_A Wc H.size) a) (va_A Wc H.size))
    (hP : va_P D vwCl Wa H) (hD : va_D A Wa) (hS : va_S A H0 H locs) (hA : ∀ q : Nat, H0.size ≤ q → A q) (isC isR : List Nat) (hC : isC.map (fun i => Wa[i]?) = Wc.map some) (hR : isR.map (fun i => Wa[i]?) = Wr.map some) (hn : va_nd isR = true) (hdis : ∀ i ∈ isR, i ∉ isC)
    (kk : ∀ (u : S) (H1 : Heap) (locs1 : List Loc), post u → va_P D vwCl (Wr ++ W1 u) H1 → va_D A (Wr ++ W1 u) → va_S A H0 H1 locs1 → W p l e R s m args below meth c H1 locs1 (cells + mc) (slots + ms) Q (F0 m (pc + 3) ls rest)) :
    W p l e R s m args below meth c H locs cells slots Q (F0 m pc ls st0) := by
  have hFc := va_free (wc := Wc) hD hS hA isC hC
  refine va_callv hr hS (fun q _ h => hFc q h) hFc (fun u t H1 locs1 ht hvm hw hB hz1 hk1 hS1 => ?_)
  obtain ⟨hP1, hD1⟩ := hB
  rw [ht] at hP1
  obtain ⟨hP2, hD2⟩ := va_join (wr := Wr) (w1 := W1 u) hP hD isC isR hC hR hn hdis hk1 hFc hP1 hD1
  exact kk u H1 locs1 hw hP2 hD2 hS1
theorem oC_q {S : Type} {post : Option Nat → S → Prop} {W1 : S → va_W} (hr : va_Run p l e R s m args below meth c H locs cells slots mc ms (F0 m pc ls st0) rest (oQq D post W1 (va_A Wc H.size) a) (va_A Wc H.size))
    (hP : va_P D vwCl Wa H) (hD : va_D A Wa) (hS : va_S A H0 H locs) (hA : ∀ q : Nat, H0.size ≤ q → A q) (isC isR : List Nat) (hC : isC.map (fun i => Wa[i]?) = Wc.map some) (hR : isR.map (fun i => Wa[i]?) = Wr.map some) (hn : va_nd isR = true) (hdis : ∀ i ∈ isR, i ∉ isC)
    (kk : ∀ (r : Option Nat) (u : S) (H1 : Heap) (locs1 : List Loc), post r u → va_P D vwCl (Wr ++ W1 u) H1 → va_D A (Wr ++ W1 u) → va_S A H0 H1 locs1 → W p l e R s m args below meth c H1 locs1 (cells + mc) (slots + ms) Q (F0 m (pc + 3) ls (va_rf r :: rest))) :
    W p l e R s m args below meth c H locs cells slots Q (F0 m pc ls st0) := by
  have hFc := va_free (wc := Wc) hD hS hA isC hC
  refine va_callq hr hS (fun q _ h => hFc q h) hFc (fun r u t H1 locs1 ht hvm hw hB hz1 hk1 hS1 => ?_)
  obtain ⟨hP1, hD1⟩ := hB
  rw [ht] at hP1
  obtain ⟨hP2, hD2⟩ := va_join (wr := Wr) (w1 := W1 u) hP hD isC isR hC hR hn hdis hk1 hFc hP1 hD1
  exact kk r u H1 locs1 hw hP2 hD2 hS1
/-- a body's ends -/
theorem oE_i {S : Type} {post : Int32 → S → Prop} {W1 : S → va_W} {v : Int32} {ty : FieldType} (hx : p.tables.exec = Jvm.exec) (hb : c.code = cc) (hr : meth.sig.returnType = some ty) (hnar : narrow ty (.int v) = .int v) (hlocks : meth.locks = false) (hP : va_P D vwCl Wa H) (hD : va_D A Wa) (hS : va_S A s.heap H locs) (u : S) (is : List Nat) (hs : is.map (fun i => Wa[i]?) = (W1 u).map some) (hn : va_nd is = true) (hpost : post v u) (hc : cells ≤ mc) (hsl : slots ≤ ms) (hdg : decode cc pc = .ok (.ireturn, 1)) :
    W p l e R s m args below meth c H locs cells slots (MQ below (oQi D post W1 A) args s mc ms A) (F0 m pc ls [.int v]) :=
  W.widen hc hsl (W.zret hx hb hr hnar (fun t ht _ => ⟨⟨v, u, rfl, hpost, by rw [ht]; exact oPsub hP is hs, hD.sub is hn hs⟩, hS.F ht⟩) hS.2.2 hdg hlocks)
theorem oE_l {S : Type} {post : Int64 → S → Prop} {W1 : S → va_W} {v : Int64} (hx : p.tables.exec = Jvm.exec) (hb : c.code = cc) (hr : meth.sig.returnType = some .long) (hlocks : meth.locks = false) (hP : va_P D vwCl Wa H) (hD : va_D A Wa) (hS : va_S A s.heap H locs) (u : S) (is : List Nat) (hs : is.map (fun i => Wa[i]?) = (W1 u).map some) (hn : va_nd is = true) (hpost : post v u) (hc : cells ≤ mc) (hsl : slots ≤ ms) (hdg : decode cc pc = .ok (.lreturn, 1)) :
    W p l e R s m args below meth c H locs cells slots (MQ below (oQl D post W1 A) args s mc ms A) (F0 m pc ls [.long v]) :=
  W.widen hc hsl (W.lret hx hb hr (fun t ht _ => ⟨⟨v, u, rfl, hpost, by rw [ht]; exact oPsub hP is hs, hD.sub is hn hs⟩, hS.F ht⟩) hS.2.2 hdg hlocks)
theorem oE_v {S : Type} {post : S → Prop} {W1 : S → va_W} (hx : p.tables.exec = Jvm.exec) (hb : c.code = cc) (hr : meth.sig.returnType = none) (hlocks : meth.locks = false) (hP : va_P D vwCl Wa H) (hD : va_D A Wa) (hS : va_S A s.heap H locs) (u : S) (is : List Nat) (hs : is.map (fun i => Wa[i]?) = (W1 u).map some) (hn : va_nd is = true) (hpost : post u) (hc : cells ≤ mc) (hsl : slots ≤ ms) (hdg : decode cc pc = .ok (.return_, 1)) :
    W p l e R s m args below meth c H locs cells slots (MQ below (oQv D post W1 A) args s mc ms A) (F0 m pc ls []) :=
  W.widen hc hsl (W.vret hx hb hr (fun t ht _ => ⟨⟨u, rfl, hpost, by rw [ht]; exact oPsub hP is hs, hD.sub is hn hs⟩, hS.F ht⟩) hS.2.2 hdg hlocks)
theorem oE_q {S : Type} {post : Option Nat → S → Prop} {W1 : S → va_W} {v : Value} {r : Option Nat} {ty : FieldType} (hx : p.tables.exec = Jvm.exec) (hb : c.code = cc) (hr : meth.sig.returnType = some ty) (hrt : (∃ n, ty = .object n) ∨ ∃ t, ty = .array t) (hv : v = va_rf r) (hlocks : meth.locks = false) (hP : va_P D vwCl Wa H) (hD : va_D A Wa) (hS : va_S A s.heap H locs) (u : S) (is : List Nat) (hs : is.map (fun i => Wa[i]?) = (W1 u).map some) (hn : va_nd is = true) (hpost : post r u) (hc : cells ≤ mc) (hsl : slots ≤ ms) (hdg : decode cc pc = .ok (.areturn, 1)) :
    W p l e R s m args below meth c H locs cells slots (MQ below (oQq D post W1 A) args s mc ms A) (F0 m pc ls [v]) := by
  subst hv
  exact W.widen hc hsl (W.aret hx hb hr hrt (va_rf_or r) (fun t ht _ => ⟨⟨r, u, rfl, hpost, by rw [ht]; exact oPsub hP is hs, hD.sub is hn hs⟩, hS.F ht⟩) hS.2.2 hdg hlocks)
/-- a new array, its class the one of the tables -/
theorem onewa (hx : p.tables.exec = Jvm.exec) (hb : c.code = cc) {atype : ArrayType} {ty : FieldType} {cA0 : ClassId} (harr : (Cond.arrayClass ty).before args s = true) (hty : newarray.typeOf atype = ty) (hK : gC D ca s) (hP : va_P D vwCl Wa H) (hD : va_D A Wa) (hS : va_S A H0 H locs) (hA : ∀ q : Nat, H0.size ≤ q → A q) (t0 : Nat) (ht : (gT ca)[t0]? = some (cA0, ty))
    {n : Int32} {N' : Nat} (a0 : vp_A) (ha : ∀ cA : ClassId, vp_cell cA a0 = arrV cA N' (fun _ => defaultValue ty)) (hn : ¬ n < 0) (hN : n.toNatClampNeg = N') (hbytes : N' * componentBytes ty ≤ 536870912) (hcells : cells + 1 ≤ R.cells) (hslots : slots + N' ≤ R.slots) (hdg : decode cc pc = .ok (.newarray atype, 2))
    (kk : ∀ (q : Nat) (H1 : Heap), va_P D vwCl (Wa ++ [(q, .inl (cA0, a0))]) H1 → va_D A (Wa ++ [(q, .inl (cA0, a0))]) → va_S A H0 H1 locs → W p l e R s m args below meth c H1 locs (cells + 1) (slots + N') Q (F0 m (pc + 2) ls (.ref q :: rest))) :
    W p l e R s m args below meth c H locs cells slots Q (F0 m pc ls (.int n :: rest)) := by
  subst hty
  refine va_newa (tys := gT ca) hx hb harr rfl hK.1 hP hD hS hA ha hn hN hbytes hcells hslots hdg (fun q cA H1 hK1 hP1 hD1 hS1 => ?_)
  have e1 := (hK1.2 (gT ca).length (cA, newarray.typeOf atype) (by simp)).2
  have e2 := (hK.1.2 t0 _ ht).2
  have e3 : cA = cA0 := ra_inj e1 e2
  subst e3
  exact kk q H1 hP1 hD1 hS1
theorem onewq (hx : p.tables.exec = Jvm.exec) (hb : c.code = cc) {own C : String} {index : Nat} {cA0 : ClassId} (hown : s.vm.findClass own = some m.cls) (hclink : (Cond.classLink own index C).before args s = true) (hover : va_AO C s) (hK : gC D ca s) (hP : va_P D vwCl Wa H) (hD : va_D A Wa) (hS : va_S A H0 H locs) (hA : ∀ q : Nat, H0.size ≤ q → A q) (t0 : Nat) (ht : (gT ca)[t0]? = some (cA0, .object C))
    {n : Int32} {N' : Nat} (hn : ¬ n < 0) (hN : n.toNatClampNeg = N') (hbytes : N' * 4 ≤ 536870912) (hcells : cells + 1 ≤ R.cells) (hslots : slots + N' ≤ R.slots) (hdg : decode cc pc = .ok (.anewarray index, 3))
    (kk : ∀ (q : Nat) (H1 : Heap), va_P D vwCl (Wa ++ [(q, .inl (cA0, N', .inr (.inr (.inr (.inr (fun _ => none))))))]) H1 → va_D A (Wa ++ [(q, .inl (cA0, N', .inr (.inr (.inr (.inr (fun _ => none))))))]) → va_S A H0 H1 locs → W p l e R s m args below meth c H1 locs (cells + 1) (slots + N') Q (F0 m (pc + 3) ls (.ref q :: rest))) :
    W p l e R s m args below meth c H locs cells slots Q (F0 m pc ls (.int n :: rest)) := by
  refine va_newq (tys := gT ca) hx hb hown hclink hover hK.1 hP hD hS hA hn hN hbytes hcells hslots hdg (fun q cA H1 hK1 hP1 hD1 hS1 => ?_)
  have e1 := (hK1.2 (gT ca).length (cA, .object C) (by simp)).2
  have e2 := (hK.1.2 t0 _ ht).2
  have e3 : cA = cA0 := ra_inj e1 e2
  subst e3
  exact kk q H1 hP1 hD1 hS1
/-- a part of the world is let go -/
theorem odrop (hP : va_P D vwCl Wa H) (hD : va_D A Wa) (is : List Nat) (hs : is.map (fun i => Wa[i]?) = Wc.map some) (hn : va_nd is = true) : va_P D vwCl Wc H ∧ va_D A Wc := ⟨oPsub hP is hs, hD.sub is hn hs⟩
end OWN
theorem oin {k N : Nat} (h : k < N) (hN : N < 2 ^ 31) {x : Int32} (hx : x = nI k) : vp_in x N := by rw [hx]; exact vp_in_nI h hN
theorem oze (f : Nat → Int32) (k : Nat) (x : Int32) {i : Int32} (hi : i = nI k) (hk : k < 2 ^ 31) : upd f i.toNatClampNeg x = upd f k x := by rw [hi, nI_clamp hk]
theorem ozeL (f : Nat → Int64) (k : Nat) (x : Int64) {i : Int32} (hi : i = nI k) (hk : k < 2 ^ 31) : vp_updL f i.toNatClampNeg x = vp_updL f k x := by rw [hi, nI_clamp hk]
theorem ozeQ (f : Nat → Option Nat) (k : Nat) (x : Option Nat) {i : Int32} (hi : i = nI k) (hk : k < 2 ^ 31) : va_up f i.toNatClampNeg x = va_up f k x := by rw [hi, nI_clamp hk]
theorem oat {α : Type} (f : Nat → α) (k : Nat) {i : Int32} (hi : i = nI k) (hk : k < 2 ^ 31) : f i.toNatClampNeg = f k := by rw [hi, nI_clamp hk]
theorem ofill {f g : Nat → Int32} {lo hi k : Nat} {v w : Int32} (h : ∀ j, lo ≤ j → j < hi → f j = w) (eg : g = upd f k v) (hv : lo ≤ k → k < hi → v = w) : ∀ j, lo ≤ j → j < hi → g j = w := by
  intro j h1 h2
  rw [eg]
  by_cases hj : j = k
  · rw [hj, pk_us]; rw [hj] at h1 h2; exact hv h1 h2
  · rw [pk_un hj]; exact h j h1 h2
theorem ofill1 {f g : Nat → Int32} {lo k : Nat} {w : Int32} (h : ∀ j, lo ≤ j → j < k → f j = w) (eg : g = upd f k w) : ∀ j, lo ≤ j → j < k + 1 → g j = w := by
  intro j h1 h2
  rw [eg]
  by_cases hj : j = k
  · rw [hj, pk_us]
  · rw [pk_un hj]; exact h j h1 (by omega)
theorem ole {x y : Int32} {a b : Nat} (hx : x = nI a) (hy : y = nI b) (ha : a < 2 ^ 31) (hb : b < 2 ^ 31) (h : x ≤ y) : a ≤ b := by rw [hx, hy] at h; exact (nI_leI ha hb).mp h
theorem oleN {x y : Int32} {a b : Nat} (hx : x = nI a) (hy : y = nI b) (ha : a < 2 ^ 31) (hb : b < 2 ^ 31) (h : ¬ x ≤ y) : ¬ a ≤ b := fun q => h (by rw [hx, hy]; exact (nI_leI ha hb).mpr q)
theorem olt {x y : Int32} {a b : Nat} (hx : x = nI a) (hy : y = nI b) (ha : a < 2 ^ 31) (hb : b < 2 ^ 31) (h : x < y) : a < b := by rw [hx, hy] at h; exact (nI_ltI ha hb).mp h
theorem oltN {x y : Int32} {a b : Nat} (hx : x = nI a) (hy : y = nI b) (ha : a < 2 ^ 31) (hb : b < 2 ^ 31) (h : ¬ x < y) : ¬ a < b := fun q => h (by rw [hx, hy]; exact (nI_ltI ha hb).mpr q)
theorem oeq {x y : Int32} {a b : Nat} (hx : x = nI a) (hy : y = nI b) (ha : a < 2 ^ 31) (hb : b < 2 ^ 31) (h : x = y) : a = b := by rw [hx, hy] at h; exact (nI_eq ha hb).mp h
theorem oeqN {x y : Int32} {a b : Nat} (hx : x = nI a) (hy : y = nI b) (ha : a < 2 ^ 31) (hb : b < 2 ^ 31) (h : ¬ x = y) : ¬ a = b := fun q => h (by rw [hx, hy]; exact (nI_eq ha hb).mpr q)
theorem ofillE {f g fr : Nat → Int32} {lo k : Nat} {v : Int32} (h : ∀ j, lo ≤ j → j < k → f j = fr j) (eg : g = upd f k v) (hv : v = fr k) : ∀ j, lo ≤ j → j < k + 1 → g j = fr j := by
  intro j h1 h2
  rw [eg]
  by_cases hj : j = k
  · rw [hj, pk_us]; exact hv
  · rw [pk_un hj]; exact h j h1 (by omega)
theorem onl {x y : Int32} (h : ¬ x < y) : y ≤ x := Int32.not_lt.mp h
theorem onle {x y : Int32} (h : ¬ x ≤ y) : y < x := Int32.not_le.mp h
theorem oI2 {x : Int32} (h : ¬ x < 0) (h2 : ¬ 2 ≤ x) : x = 0 ∨ x = 1 := by
  have a := mt Int32.lt_iff_toInt_lt.mpr h
  have b := mt Int32.le_iff_toInt_le.mpr h2
  have c0 : (0 : Int32).toInt = 0 := by decide
  have c2 : (2 : Int32).toInt = 2 := by decide
  rw [c0] at a
  rw [c2] at b
  rcases (show x.toInt = 0 ∨ x.toInt = 1 by omega) with q | q
  · exact Or.inl (Int32.toInt_inj.mp (by rw [q]; decide))
  · exact Or.inr (Int32.toInt_inj.mp (by rw [q]; decide))
theorem omerge {f : Nat → Int32} {w : Int32} {lo mid hi : Nat} (h1 : ∀ j, lo ≤ j → j < mid → f j = w) (h2 : ∀ j, mid ≤ j → j < hi → f j = w) : ∀ j, lo ≤ j → j < hi → f j = w := by
  intro j a b
  rcases Nat.lt_or_ge j mid with q | q
  · exact h1 j a q
  · exact h2 j q b
