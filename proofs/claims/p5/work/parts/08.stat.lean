/-! STATICS: what the heap holds of them, outside of A; the words of a throw that a warming keeps -/
def xW (U : State) : Prop := va_Nw (.castable "java/util/NoSuchElementException" "java/util/NoSuchElementException") U ∧ va_Nw (.declares (Bundle.init0 "java/lang/RuntimeException")) U ∧ va_Nw (.declares (Bundle.init0 "java/lang/Exception")) U ∧ va_Nw (.declares (Bundle.init0 Bundle.tN)) U
def wdn : List String := ["JUROR", "SEATED", "FLOOR", "CASE", "TUNED", "ONE", "DENT", "SITS", "RISES", "HOLDS", "DROPS", "BEATEN", "TRY", "APPEAL", "DAY", "OR", "AND", "NOT", "SITTING", "HOLDING", "DENTED", "RINGS", "PITCH", "LENGTH", "DENTS", "NUMBER"]
def wdl : List Int64 := [11192818, 642830500, 6700530, 99941, 21674148, 15813, 136660, 632467, 19188915, 8892563, 4800019, 72405166, 21081, 50861100, 4153, 498, 1476, 14836, 20724721095, 9105974727, 139940004, 19183859, 17092712, 408362632, 4373139, 492210354]
/-- the words as constants: their statics, their objects -/
def gW (ad : Nat → Nat) (A : Nat → Prop) (U : State) (H : Heap) : Prop := (∀ i : Nat, i < 26 → va_Z "LidCourt$Word" (wdn.getD i "") "LLidCourt$Word;" (.ref (ad i)) A U H ∧ va_O "LidCourt$Word" (ad i) A U H) ∧ ∀ i j : Nat, i < 26 → j < 26 → ad i = ad j → i = j
abbrev gL (ad : Nat → Nat) (A : Nat → Prop) (U : State) (H : Heap) : Prop := va_Ef 26 "LidCourt$Word" "letters" "J" (fun i => .long (wdl.getD i 0)) ad A U H
def gZ (ad : Nat → Nat) (wt : Nat) (A : Nat → Prop) (U : State) (H : Heap) : Prop := vx_Zq Bundle.tN "UNASSIGNED_STACK" Bundle.steD A U H ∧ vx_Zq Bundle.tN "SUPPRESSED_SENTINEL" Bundle.listD A U H ∧ va_Z "LidCourt" "WORDS" "[LLidCourt$Word;" (.ref wt) A U H ∧ va_T (.object "LidCourt$Word") wt 26 (fun i => .ref (ad i)) A U H ∧ gW ad A U H ∧ gL ad A U H ∧ xW U
theorem castable_warm {a b : String} {s U : State} (hW : s.vm.Alike U.vm) (h : va_Nw (.castable a b) s) : va_Nw (.castable a b) U := va_tabs rfl (rfl : (s.setVm U.vm).vm = U.vm) (by rw [Cond.castable_setVm hW]; exact h)
theorem declares_warm {x : MethodName} {s U : State} (hW : s.vm.Alike U.vm) (h : va_Nw (.declares x) s) : va_Nw (.declares x) U := va_tabs rfl (rfl : (s.setVm U.vm).vm = U.vm) (by rw [Cond.declares_setVm hW]; exact h)
theorem xW.moved {s U : State} (hW : s.vm.Alike U.vm) (h : xW s) : xW U := ⟨castable_warm hW h.1, declares_warm hW h.2.1, declares_warm hW h.2.2.1, declares_warm hW h.2.2.2⟩
theorem gZ.moved {ad : Nat → Nat} {wt : Nat} {A : Nat → Prop} {s U : State} {H : Heap} (hW : s.vm.Alike U.vm) (h : gZ ad wt A s H) : gZ ad wt A U H :=
  ⟨vx_Zq.moved hW h.1, vx_Zq.moved hW h.2.1, va_Z.moved hW h.2.2.1, va_T.moved hW h.2.2.2.1, ⟨fun i hi => ⟨va_Z.moved hW (h.2.2.2.2.1.1 i hi).1, va_O.moved hW (h.2.2.2.2.1.1 i hi).2⟩, h.2.2.2.2.1.2⟩, va_Ef.moved hW h.2.2.2.2.2.1, h.2.2.2.2.2.2.moved hW⟩
theorem gZ.kept {ad : Nat → Nat} {wt : Nat} {A : Nat → Prop} {U : State} {H H1 : Heap} (h : gZ ad wt A U H) (hq : ∀ a : Nat, a < H.size → ¬ A a → H1[a]? = H[a]?) : gZ ad wt A U H1 :=
  ⟨vx_Zq.kept h.1 hq, vx_Zq.kept h.2.1 hq, va_Z.kept h.2.2.1 hq, va_T.kept h.2.2.2.1 hq, ⟨fun i hi => ⟨va_Z.kept (h.2.2.2.2.1.1 i hi).1 hq, (h.2.2.2.2.1.1 i hi).2.kept hq⟩, h.2.2.2.2.1.2⟩, va_Ef.kept h.2.2.2.2.2.1 hq, h.2.2.2.2.2.2⟩
theorem gZ.narrow {ad : Nat → Nat} {wt : Nat} {A B : Nat → Prop} {U : State} {H : Heap} (h : gZ ad wt A U H) (hAB : ∀ q, B q → A q) : gZ ad wt B U H :=
  ⟨vx_Zq.narrow h.1 hAB, vx_Zq.narrow h.2.1 hAB, va_Z.narrow h.2.2.1 hAB, va_T.narrow h.2.2.2.1 hAB, ⟨fun i hi => ⟨va_Z.narrow (h.2.2.2.2.1.1 i hi).1 hAB, (h.2.2.2.2.1.1 i hi).2.narrow hAB⟩, h.2.2.2.2.1.2⟩, va_Ef.narrow h.2.2.2.2.2.1 hAB, h.2.2.2.2.2.2⟩
def sP (D : va_G) (ca : Nat → ClassId) (ad : Nat → Nat) (wt sz : Nat) (W0 : va_W) : State → Prop := fun U => oP D ca sz W0 U ∧ gZ ad wt (va_A W0 sz) U U.heap
abbrev sMet (l : Launch) (y : MethodName) (ws : List Cond) (rm : Room) (av : List Value) (D : va_G) (ca : Nat → ClassId) (ad : Nat → Nat) (wt sz : Nat) (W0 : va_W) (Qc : oQT) (mc ms : Nat) : Prop :=
  Met l y ws rm (va_Pc av (sP D ca ad wt sz W0)) (Qc (va_A W0 sz)) mc ms (va_A W0 sz)
theorem sP.blind {D : va_G} {ca : Nat → ClassId} {ad : Nat → Nat} {wt sz : Nat} {W0 : va_W} {av : List Value} : FrameBlind (va_Pc av (sP D ca ad wt sz W0)) :=
  fun a U g mk q => ⟨q.1, ⟨q.2.1.1, q.2.1.2.1, q.2.1.2.2.1.call, q.2.1.2.2.2⟩, gZ.moved (s := U) (U := U.calling g mk a) (Vm.Alike.refl U.vm) q.2.2⟩
theorem sM {l : Launch} {y : MethodName} {ws ws' : List Cond} {rm : Room} {av : List Value} {D : va_G} {ca : Nat → ClassId} {ad : Nat → Nat} {wt sz : Nat} {W0 : va_W} {Qc : oQT} {mc ms : Nat} {cc : ByteArray} {maxL : Nat} {ret : Option FieldType}
    (hy : plainName y.cls = true) (hw : ws = Cond.code y cc maxL ret :: ws') (hlen : (lg_sl av).length ≤ maxL) (lv : List (Nat × Value)) (hlv : lv_args 0 av = lv)
    (body : ∀ (p : Program) (e : Env) (s : State) (m : MethodId) (below : List Frame) (meth : Method) (c : Code) (A : Nat → Prop) (H : Heap) (locs : List Loc) (ls : Array Slot), p.tables.exec = Jvm.exec → c.code = cc → meth.sig.returnType = ret → c.maxLocals = maxL → (∀ w ∈ ws, w.before av.toArray s = true) → s.vm.findClass y.cls = some m.cls → meth.locks = false → meth.name = y.name → gC D ca s →
      va_P D vwCl W0 H → va_D A W0 → (∀ q : Nat, s.heap.size ≤ q → A q) → va_S A s.heap H locs → lv_has ls maxL lv → gZ ad wt A s s.heap → W p l e rm s m av.toArray below meth c H locs 0 0 (MQ below (Qc A) av.toArray s mc ms A) (F0 m 0 ls [])) :
    sMet l y ws rm av D ca ad wt sz W0 Qc mc ms := by
  refine Met.ofW (cc := cc) (maxL := maxL) (ret := ret) hy hw ?_
  intro p e s m args below meth c s₁ B hml hv
  obtain ⟨rfl, ⟨hsz, hP, hK, hD0⟩, hZ⟩ := hv
  have hts := atoms_spec (ws := ws) B.pre
  rw [lg_entry_eq]
  have hl := lv_entry av (n := maxL) hlen
  rw [hlv] at hl
  exact body p e s m below meth c (va_A W0 sz) s.heap [] _ B.exec B.bytes B.returns hml hts (findClass_of_methodNamed B.named) B.notSynchronized (name_of_methodNamed B.named B.method).1 hK hP hD0.self (fun q h => Or.inr (by rw [← hsz]; exact h)) va_S.rf hl hZ
section OWNS
variable {p : Program} {l : Launch} {e : Env} {R : Room} {s : State} {m : MethodId} {args : Array Value} {below : List Frame} {meth : Method} {c : Code} {H : Heap} {locs : List Loc} {cells slots : Nat} {Q : State → Prop}
variable {cc : ByteArray} {pc : Nat} {ls : Array Slot} {rest st0 : List Value} {D : va_G} {ca : Nat → ClassId} {ad : Nat → Nat} {wt : Nat} {A : Nat → Prop} {a : Array Value} {Wa Wc Wr : va_W} {mc ms : Nat} {H0 : Heap}
theorem gZ.here {U : State} (hZ : gZ ad wt A s s.heap) (hD : va_D A Wa) (hS : va_S A s.heap H locs) (hA : ∀ q : Nat, s.heap.size ≤ q → A q) (isC : List Nat) (hC : isC.map (fun i => Wa[i]?) = Wc.map some) (hU : U.heap = H) (hW : s.vm.Alike U.vm) : gZ ad wt (va_A Wc H.size) U U.heap := by
  rw [hU]
  exact ((hZ.kept hS.2.1).narrow (va_free (wc := Wc) hD hS hA isC hC)).moved hW
theorem sPV {C : String} {b : Nat} {As : List Value} {ci : Nat} {r : vw_C} {fs : List Value} (hZ : gZ ad wt A s s.heap) (hS : va_S A s.heap H locs) (hA : ∀ q : Nat, s.heap.size ≤ q → A q) (hK : gC D ca s) (hP : va_P D vwCl Wa H) (hD : va_D A Wa) (isC : List Nat) (hC : isC.map (fun i => Wa[i]?) = Wc.map some) (hn : va_nd isC = true) (qr : Nat) (hrv : Wc[qr]? = some (b, .inr (ci, fs))) (hcl : vwCl[ci]? = some r) (hCr : r.1 = C) :
    PreV s H C b (va_Pc (.ref b :: As) (sP D ca ad wt H.size Wc)) As := by
  subst hCr
  exact ⟨sP.blind, va_recv hK.1 (oPsub hP isC hC) hcl hrv, fun U hU hW => ⟨rfl, ⟨by rw [hU], by rw [hU]; exact oPsub hP isC hC, hK.warm hW, (hD.sub isC hn hC).weaken (fun _ _ _ _ => trivial)⟩, hZ.here hD hS hA isC hC hU hW.alike⟩⟩
theorem sPS {As : List Value} (hZ : gZ ad wt A s s.heap) (hS : va_S A s.heap H locs) (hA : ∀ q : Nat, s.heap.size ≤ q → A q) (hK : gC D ca s) (hP : va_P D vwCl Wa H) (hD : va_D A Wa) (isC : List Nat) (hC : isC.map (fun i => Wa[i]?) = Wc.map some) (hn : va_nd isC = true) :
    PreS s H (va_Pc As (sP D ca ad wt H.size Wc)) As :=
  ⟨sP.blind, fun U hU hW => ⟨rfl, ⟨by rw [hU], by rw [hU]; exact oPsub hP isC hC, hK.warm hW, (hD.sub isC hn hC).weaken (fun _ _ _ _ => trivial)⟩, hZ.here hD hS hA isC hC hU hW.alike⟩⟩
end OWNS
/-! THROWS of NoSuchElementException -/
abbrev nse : String := "java/util/NoSuchElementException"
abbrev nseN : List String := ["java/lang/RuntimeException", "java/lang/Exception"]
abbrev xQ (D : va_G) : oQT := fun A => va_Qi (S := Unit) (fun _ _ => False) (fun _ _ => True) A
abbrev xQl (D : va_G) : oQT := fun A => va_Ql (S := Unit) (fun _ _ => False) (fun _ _ => True) A
abbrev xX (A : Nat → Prop) : String → State → State → Prop := vx_X (S := Unit) (fun _ => True) (fun E _ _ => E = nse) A
abbrev xMet (l : Launch) (y : MethodName) (ws : List Cond) (rm : Room) (av : List Value) (D : va_G) (ca : Nat → ClassId) (ad : Nat → Nat) (wt sz : Nat) (W0 : va_W) (Qc : oQT) (mc ms : Nat) : Prop :=
  vx_Met l y ws rm (va_Pc av (sP D ca ad wt sz W0)) (Qc (va_A W0 sz)) (xX (va_A W0 sz)) mc ms (va_A W0 sz)
theorem xM {l : Launch} {y : MethodName} {ws ws' : List Cond} {rm : Room} {av : List Value} {D : va_G} {ca : Nat → ClassId} {ad : Nat → Nat} {wt sz : Nat} {W0 : va_W} {Qc : oQT} {mc ms : Nat} {cc : ByteArray} {maxL : Nat} {ret : Option FieldType}
    (hy : plainName y.cls = true) (hw : ws = Cond.code y cc maxL ret :: ws') (hlen : (lg_sl av).length ≤ maxL) (lv : List (Nat × Value)) (hlv : lv_args 0 av = lv)
    (body : ∀ (p : Program) (e : Env) (s : State) (m : MethodId) (below : List Frame) (meth : Method) (c : Code) (A : Nat → Prop) (H : Heap) (locs : List Loc) (ls : Array Slot), p.tables.exec = Jvm.exec → c.code = cc → meth.sig.returnType = ret → c.maxLocals = maxL → (∀ w ∈ ws, w.before av.toArray s = true) → s.vm.findClass y.cls = some m.cls → meth.locks = false → meth.name = y.name → gC D ca s →
      va_P D vwCl W0 H → va_D A W0 → (∀ q : Nat, s.heap.size ≤ q → A q) → va_S A s.heap H locs → lv_has ls maxL lv → gZ ad wt A s s.heap → (∀ x ∈ c.exceptionTable.toList, False) → W p l e rm s m av.toArray below meth c H locs 0 0 (vx_MQ below (Qc A) (xX A) av.toArray s mc ms A) (F0 m 0 ls [])) :
    xMet l y ws rm av D ca ad wt sz W0 Qc mc ms := by
  refine vx_ofW (cc := cc) (maxL := maxL) (ret := ret) hy hw ?_
  intro p e s m args below meth c s₁ B hml htab hv
  obtain ⟨rfl, ⟨hsz, hP, hK, hD0⟩, hZ⟩ := hv
  have hts := atoms_spec (ws := ws) B.pre
  rw [lg_entry_eq]
  have hl := lv_entry av (n := maxL) hlen
  rw [hlv] at hl
  exact body p e s m below meth c (va_A W0 sz) s.heap [] _ B.exec B.bytes B.returns hml hts (findClass_of_methodNamed B.named) B.notSynchronized (name_of_methodNamed B.named B.method).1 hK hP hD0.self (fun q h => Or.inr (by rw [← hsz]; exact h)) va_S.rf hl hZ htab
theorem xbad : ∀ w ∈ (vx_at0 RX11 143 nse nseN).filter (fun w => !goodWord w), w ∈ [Cond.castable nse nse, Cond.declares (Bundle.init0 "java/lang/RuntimeException"), Cond.declares (Bundle.init0 "java/lang/Exception"), Cond.declares (Bundle.init0 Bundle.tN)] := by decide +kernel
theorem xgood : ∀ w ∈ Cond.classLink RX11 141 nse :: Cond.initialized nse :: vx_at0 RX11 143 nse nseN, vx_ot w = true := by decide +kernel
section OWNX
variable {p : Program} {l : Launch} {e : Env} {R : Room} {s : State} {m : MethodId} {args : Array Value} {below : List Frame} {meth : Method} {c : Code} {H : Heap} {locs : List Loc} {cells slots : Nat}
variable {cc : ByteArray} {pc : Nat} {ls : Array Slot} {rest : List Value} {ad : Nat → Nat} {wt : Nat} {A : Nat → Prop} {mc ms : Nat} {Ts : List Cond}
/-- 'throw new NoSuchElementException()' of a method of LidCourt -/
theorem xthrow {Qc : Array Value → State → Outcome → State → Prop} (hx : p.tables.exec = Jvm.exec) (hb : c.code = cc) (hl : l.stackTraces = false) (hts : ∀ w ∈ Ts, w.before args s = true) (hin : ∀ w ∈ (vx_at0 RX11 143 nse nseN).filter goodWord, w ∈ Ts) (hown : s.vm.findClass RX11 = some m.cls)
    (hk : (Cond.classLink RX11 141 nse).before args s = true) (hini : (Cond.initialized nse).before args s = true) (hZ : gZ ad wt A s s.heap) (hS : va_S A s.heap H locs) (hsize : ls.size = c.maxLocals) (htab : ∀ x ∈ c.exceptionTable.toList, False)
    (d0 : decode cc pc = .ok (.new 141, 3)) (d3 : decode cc (pc + 3) = .ok (.dup, 1)) (d4 : decode cc (pc + 4) = .ok (.invokespecial 143, 3)) (d7 : decode cc (pc + 7) = .ok (.athrow, 1))
    (hRframes : 5 < R.frames) (hRlocals : (rest.map fun v => v.category).sum + 81 ≤ R.locals) (hRcells : cells + 1 ≤ R.cells) (hRslots : slots + 6 ≤ R.slots) (hlocks : meth.locks = false) (hc : cells + 1 ≤ mc) (hs : slots + 6 ≤ ms) :
    W p l e R s m args below meth c H locs cells slots (vx_MQ below Qc (xX A) args s mc ms A) (F0 m pc ls rest) := by
  obtain ⟨hU, hN, -, -, -, -, x1, x2, x3, x4⟩ := hZ
  have hat : ∀ w ∈ vx_at0 RX11 143 nse nseN, w.before args s = true := vx_hat (fun w h => hts w (hin w h)) xbad (vx_c (va_Nw.use rfl x1) (vx_c (va_Nw.use rfl x2) (vx_c (va_Nw.use rfl x3) (vx_c (va_Nw.use rfl x4) vx_n))))
  refine vx_throw0 (names := nseN) hx hb hl hown (by decide +kernel) (by decide +kernel) hk hini hat xgood hU hN hS hsize d0 d3 d4 d7 (fun x h => (htab x h).elim) hRframes hRlocals hRcells hRslots hlocks ?_ hS.2.2 hc hs
  intro t _ hz hq
  exact ⟨(), trivial, rfl, ⟨Nat.le_trans hS.1 hz, fun q h1 h2 => (hq q (Nat.lt_of_lt_of_le h1 hS.1)).trans (hS.2.1 q h1 h2)⟩⟩
end OWNX

theorem hZw {ad : Nat → Nat} {wt : Nat} {A : Nat → Prop} {U : State} {H : Heap} (h : gZ ad wt A U H) (k : Nat) (n : String) (hk : k < 26) (hn : wdn.getD k "" = n) : va_Z "LidCourt$Word" n "LLidCourt$Word;" (.ref (ad k)) A U H := hn ▸ (h.2.2.2.2.1.1 k hk).1
theorem aO {E : String} {t : Nat} {A : Nat → Prop} {U : State} {H : Heap} (h : va_O E t A U H) : ∃ cellV : Cell, H[t]? = some cellV ∧ cellV.vm.isStatics = false ∧ U.vm.findClass E = some cellV.cls := by
  obtain ⟨c, h1, h2, h3, -⟩ := h
  exact ⟨c, h1, h2, h3⟩
def wok (ad : Nat → Nat) (W : Nat → Option Nat) : Prop := ∀ j : Nat, j < 40 → W j = none ∨ ∃ k : Nat, k < 26 ∧ W j = some (ad k)
def rok (ad : Nat → Nat) (n : Int32) (W : Nat → Option Nat) (F S : Nat → Int32) : Prop := ∀ j : Nat, j < 40 → (j : Int) < n.toInt → W j = some (ad 21) → rg 0 3 (F j) ∧ rg 0 9 (S j)
def dok (ad : Nat → Nat) (fk n : Int32) (W : Nat → Option Nat) (F S : Nat → Int32) : Prop := 1 ≤ fk.toInt ∨ rok ad n W F S
theorem rok_0 {ad : Nat → Nat} {n : Int32} {W : Nat → Option Nat} {F S : Nat → Int32} (h : n.toInt ≤ 0) : rok ad n W F S := fun j _ h2 => absurd h2 (by omega)
theorem dok_l {ad : Nat → Nat} {fk n : Int32} {W : Nat → Option Nat} {F S : Nat → Int32} {a b : Int} (h : rg a b fk) (h1 : 1 ≤ a) : dok ad fk n W F S := Or.inl (Int.le_trans h1 h.1)
theorem dok_r {ad : Nat → Nat} {fk n : Int32} {W : Nat → Option Nat} {F S : Nat → Int32} (h : rok ad n W F S) : dok ad fk n W F S := Or.inr h
theorem dok_fk {ad : Nat → Nat} {fk fk' n : Int32} {W : Nat → Option Nat} {F S : Nat → Int32} (h : dok ad fk n W F S) (b : bk fk fk') : dok ad fk' n W F S := h.elim (fun q => Or.inl (b q)) Or.inr
theorem dok_rok {ad : Nat → Nat} {fk n : Int32} {W : Nat → Option Nat} {F S : Nat → Int32} {a b : Int} (h : dok ad fk n W F S) (hf : rg a b fk) (h1 : b ≤ 0) : rok ad n W F S := h.elim (fun q => absurd (Int.le_trans q hf.2) (by omega)) id
theorem vu_s {f : Nat → Option Nat} {k : Nat} {x : Option Nat} : va_up f k x k = x := va_up_self ..
theorem vu_n {f : Nat → Option Nat} {k j : Nat} {x : Option Nat} (h : j ≠ k) : va_up f k x j = f j := va_up_ne _ _ h
theorem rok_add {ad : Nat → Nat} {n n' : Int32} {W W' : Nat → Option Nat} {F F' S S' : Nat → Int32} {p q : Int} {k : Nat} {a b : Int32} (h : rok ad n W F S) (hn : rg p q n) (eW : W' = va_up W n.toNatClampNeg (some (ad k))) (eF : F' = upd F n.toNatClampNeg a) (eS : S' = upd S n.toNatClampNeg b) (en : lq n'.toInt (n.toInt + 1)) (hc : k = 21 → rg 0 3 a ∧ rg 0 9 b) (hinj : ad k = ad 21 → k = 21) (h0 : 0 ≤ p := by decide) : rok ad n' W' F' S' := by
  have e := rg_cl hn h0
  have en' := lqe en
  intro j hj h2 hw
  by_cases g : j = n.toNatClampNeg
  · rw [eF, eS, g, pk_us, pk_us]
    rw [eW, g, vu_s] at hw
    exact hc (hinj (Option.some.inj hw))
  · rw [eF, eS, pk_un g, pk_un g]
    rw [eW, vu_n g] at hw
    exact h j hj (by omega) hw
theorem wok_st {ad : Nat → Nat} {W W' : Nat → Option Nat} {i : Nat} {x : Option Nat} (h : wok ad W) (eW : W' = va_up W i x) (hx : x = none ∨ ∃ k : Nat, k < 26 ∧ x = some (ad k)) : wok ad W' := by
  intro j hj
  by_cases g : j = i
  · rw [eW, g, vu_s]; exact hx
  · rw [eW, vu_n g]; exact h j hj
theorem wok_at {ad : Nat → Nat} {W : Nat → Option Nat} {i : Int32} {p q : Int} (h : wok ad W) (hi : rg p q i) (h0 : 0 ≤ p) (h1 : q < 40) : W i.toNatClampNeg = none ∨ ∃ k : Nat, k < 26 ∧ W i.toNatClampNeg = some (ad k) := by
  have e := rg_cl hi h0
  have := hi.2
  exact h _ (by omega)
theorem rok_at {ad : Nat → Nat} {n : Int32} {W : Nat → Option Nat} {F S : Nat → Int32} {i : Int32} {p q : Int} (h : rok ad n W F S) (hl : rl 1 i n) (hi : rg p q i) (h0 : 0 ≤ p) (h1 : q < 40) (hw : W i.toNatClampNeg = some (ad 21)) : rg 0 3 (F i.toNatClampNeg) ∧ rg 0 9 (S i.toNatClampNeg) := by
  have e := rg_cl hi h0
  have := hi.2
  have := rle hl
  exact h _ (by omega) (by omega) hw
def cp3 (i : Int32) (W : Nat → Option Nat) (F S : Nat → Int32) (W0 : Nat → Option Nat) (F0 S0 : Nat → Int32) : Prop := ∀ j : Nat, (j : Int) < i.toInt → W j = W0 j ∧ F j = F0 j ∧ S j = S0 j
theorem cp3_0 (W : Nat → Option Nat) (F S : Nat → Int32) (W0 : Nat → Option Nat) (F0 S0 : Nat → Int32) : cp3 0 W F S W0 F0 S0 := by
  intro j h
  have z : (0 : Int32).toInt = 0 := by decide
  omega
theorem cp3_s {i i' : Int32} {W W' W0 : Nat → Option Nat} {F F' F0 S S' S0 : Nat → Int32} {x : Option Nat} {a b : Int32} {p q : Int} (h : cp3 i W F S W0 F0 S0) (hi : rg p q i) (eW : W' = va_up W i.toNatClampNeg x) (hx : W0 i.toNatClampNeg = x) (eF : F' = upd F i.toNatClampNeg a) (eS : S' = upd S i.toNatClampNeg b) (ea : a = F0 i.toNatClampNeg) (eb : b = S0 i.toNatClampNeg) (en : lq i'.toInt (i.toInt + 1)) (h0 : 0 ≤ p := by decide) : cp3 i' W' F' S' W0 F0 S0 := by
  have e := rg_cl hi h0
  have en' := lqe en
  intro j hj
  by_cases g : j = i.toNatClampNeg
  · rw [eW, eF, eS, g, vu_s, pk_us, pk_us, hx]; exact ⟨rfl, ea, eb⟩
  · rw [eW, eF, eS, vu_n g, pk_un g, pk_un g]; exact h j (by omega)
theorem cp3_wok {ad : Nat → Nat} {i : Int32} {W W0 : Nat → Option Nat} {F F0 S S0 : Nat → Int32} {a : Int} (h : cp3 i W F S W0 F0 S0) (hi : a ≤ i.toInt) (hw : wok ad W0) (h1 : 40 ≤ a) : wok ad W := fun j hj => by
  rw [(h j (by omega)).1]; exact hw j hj
theorem cp3_rok {ad : Nat → Nat} {i n : Int32} {W W0 : Nat → Option Nat} {F F0 S S0 : Nat → Int32} {a : Int} (h : cp3 i W F S W0 F0 S0) (hi : a ≤ i.toInt) (hr : rok ad n W0 F0 S0) (h1 : 40 ≤ a) : rok ad n W F S := fun j hj h2 hw => by
  obtain ⟨p, q, r⟩ := h j (by omega)
  rw [q, r]
  exact hr j hj h2 (by rw [← p]; exact hw)
section OWNQ
variable {p : Program} {l : Launch} {e : Env} {R : Room} {s : State} {m : MethodId} {args : Array Value} {below : List Frame} {meth : Method} {c : Code} {H : Heap} {locs : List Loc} {cells slots : Nat} {Q : State → Prop}
variable {cc : ByteArray} {pc : Nat} {ls : Array Slot} {rest : List Value}
theorem lv_astoreQ (hx : p.tables.exec = Jvm.exec) (hb : c.code = cc) {i nL : Nat} {r : Option Nat} {lv lv' : List (Nat × Value)} (hdg : decode cc pc = .ok (.astore i, 2)) (h : lv_has ls nL lv) (hn : i < nL) (hl : (i, va_rf r) :: lv.filter (fun q => !(q.1 == i) && !(q.1 + 1 == i && q.2.category == 2)) = lv')
    (kk : ∀ ls' : Array Slot, lv_has ls' nL lv' → W p l e R s m args below meth c H locs cells slots Q (F0 m (pc + 2) ls' rest)) : W p l e R s m args below meth c H locs cells slots Q (F0 m pc ls (va_rf r :: rest)) := by
  cases r with
  | none => exact lv_astoreN hx hb hdg h hn hl kk
  | some x => exact lv_astore hx hb hdg h hn hl kk
theorem lv_aloadQ (hx : p.tables.exec = Jvm.exec) (hb : c.code = cc) {i : Nat} {r : Option Nat} (hdg : decode cc pc = .ok (.aload i, 2)) (hl : ls[i]? = some (.val (va_rf r)))
    (k : W p l e R s m args below meth c H locs cells slots Q (F0 m (pc + 2) ls (va_rf r :: rest))) : W p l e R s m args below meth c H locs cells slots Q (F0 m pc ls rest) := by
  cases r with
  | none => exact lv_aloadN hx hb hdg hl k
  | some x => exact lv_aload hx hb hdg hl k
end OWNQ
