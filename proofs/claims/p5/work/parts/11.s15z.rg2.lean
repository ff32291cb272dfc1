def hb (s k : Int32) : Prop := (s >>> (k &&& 31)) &&& 1 = 1
def wo (s k : Int32) : Int32 := s &&& (((1 : Int32) <<< (k &&& 31)) ^^^ (-1))
theorem hbm {s k x y : Int32} (e1 : x = s >>> (k &&& 31)) (e2 : y = x &&& 1) (h : y = 1) : hb s k := by unfold hb; rw [← e1, ← e2]; exact h
theorem hbn {s k x y : Int32} (e1 : x = s >>> (k &&& 31)) (e2 : y = x &&& 1) (h : ¬ y = 1) : ¬ hb s k := by unfold hb; rw [← e1, ← e2]; exact h
def pcq (r s : Int32) : Prop := r.toInt = (pc10 s.toBitVec.toNat : Int)
def stk (F : Nat → Int32) (s : Int32) : Prop := F s.toNatClampNeg = 0 ∨ ∃ k : Nat, k < 10 ∧ hb s (nI k) ∧ ¬ F (wo s (nI k)).toNatClampNeg = 0
def sx (j fr : Int32) (F : Nat → Int32) (s : Int32) : Prop := 0 ≤ j.toInt ∧ ∃ k : Nat, j.toInt ≤ (k : Int) ∧ k < 10 ∧ hb s (nI k) ∧ (fr = 0 ∨ ¬ F (wo s (nI k)).toNatClampNeg = 0)
theorem sx_rg {j fr : Int32} {F : Nat → Int32} {s : Int32} (h : sx j fr F s) : rg 0 9 j := by
  obtain ⟨p, k, q, r, -⟩ := h
  exact ⟨p, by omega⟩
theorem bit_ex : ∀ n : Nat, n < 1024 → 1 ≤ n → ∃ k : Nat, k < 10 ∧ (nI n >>> (nI k &&& 31)) &&& 1 = 1 := by decide +kernel
theorem pc0 : pc10 0 = 0 := by decide
theorem sx_0 {F : Nat → Int32} {s fr rb : Int32} {a b : Int} (hst : stk F s) (hs : rg 0 1023 s) (hpc : pcq rb s) (hrb : rg a b rb) (ef : fr = F s.toNatClampNeg) (ha : 1 ≤ a := by decide) : sx 0 fr F s := by
  have z : (0 : Int32).toInt = 0 := by decide
  refine ⟨by omega, ?_⟩
  by_cases g : fr = 0
  · obtain ⟨j, hj, rfl, p, q⟩ := rgN hs (by decide)
    have hj1 : 1 ≤ j := by
      rcases Nat.eq_zero_or_pos j with e | e
      · have u : pcq rb (nI j) := hpc
        unfold pcq at u
        rw [nI_nat hj, e, pc0] at u
        have := hrb.1
        omega
      · exact e
    obtain ⟨k, hk, hk2⟩ := bit_ex j (by omega) hj1
    exact ⟨k, by omega, hk, hk2, Or.inl g⟩
  · rcases hst with h | ⟨k, hk, h1, h2⟩
    · exact absurd (ef.trans h) g
    · exact ⟨k, by omega, hk, h1, Or.inr h2⟩
theorem nI_back {j : Int32} {k : Nat} (h : j.toInt = (k : Int)) (hk : k < 2 ^ 31) : j = nI k := Int32.toInt_inj.mp (by rw [nI_toInt hk]; exact h)
theorem sx_s1 {j j' fr : Int32} {F : Nat → Int32} {s : Int32} (h : sx j fr F s) (hn : ¬ hb s j) (e : lq j'.toInt (j.toInt + 1)) : sx j' fr F s := by
  have e' := lqe e
  obtain ⟨p, k, q, r, u, v⟩ := h
  refine ⟨by omega, k, ?_, r, u, v⟩
  have : j.toInt ≠ (k : Int) := fun g => hn (by rw [nI_back g (by omega)]; exact u)
  omega
theorem sx_s2 {j j' fr : Int32} {F : Nat → Int32} {s i v : Int32} (h : sx j fr F s) (hf : ¬ fr = 0) (hv : v = 0) (ev : v = F i.toNatClampNeg) (ei : i = wo s j) (e : lq j'.toInt (j.toInt + 1)) : sx j' fr F s := by
  have e' := lqe e
  obtain ⟨p, k, q, r, u, w⟩ := h
  refine ⟨by omega, k, ?_, r, u, w⟩
  have : j.toInt ≠ (k : Int) := fun g => by
    rw [nI_back g (by omega)] at ei
    rcases w with w | w
    · exact hf w
    · exact w (by rw [← ei, ← ev]; exact hv)
  omega
def so (x s : Int32) (F : Nat → Int32) : Prop := x.toInt ≤ s.toInt ∨ stk F s
theorem so_0 {s : Int32} {F : Nat → Int32} {a b : Int} (h : rg a b s) (h0 : 0 ≤ a := by decide) : so 0 s F := Or.inl (by have z : (0 : Int32).toInt = 0 := by decide
                                                                                                                         have := h.1; omega)
theorem so_s {x x' s : Int32} {F : Nat → Int32} (hle : rl 0 x s) (hs : x = s → stk F s) (e : lq x'.toInt (x.toInt + 1)) : so x' s F := by
  have e' := lqe e
  have l := rle hle
  by_cases g : x = s
  · exact Or.inr (hs g)
  · have : x.toInt ≠ s.toInt := fun q => g (Int32.toInt_inj.mp q)
    exact Or.inl (by omega)
theorem so_e {x s : Int32} {F : Nat → Int32} (h : so x s F) (hl : rl 1 s x) : stk F s := h.elim (fun q => absurd q (by have := rle hl; omega)) id
theorem and_self_not (s : Int32) : s &&& (s ^^^ (-1)) = 0 := by
  apply Int32.toBitVec_inj.mp
  rw [Int32.toBitVec_and, Int32.toBitVec_xor]
  apply BitVec.eq_of_getLsbD_eq
  intro i hi
  have : (Int32.toBitVec (-1)).getLsbD i = true := by
    have h : Int32.toBitVec (-1) = BitVec.allOnes 32 := by decide
    rw [h, BitVec.getLsbD_allOnes]; exact decide_eq_true hi
  rw [BitVec.getLsbD_and, BitVec.getLsbD_xor, this]
  show _ = (0 : BitVec 32).getLsbD i
  cases s.toBitVec.getLsbD i <;> simp
theorem ss_a {x s y z : Int32} {F : Nat → Int32} (e1 : y = s ^^^ (-1)) (e2 : z = x &&& y) (h : ¬ z = 0) : x = s → stk F s := fun g => absurd (by rw [e2, e1, g]; exact and_self_not s) h
theorem ss_b {x s r n : Int32} {F : Nat → Int32} (hp : pcq r x) (hn : n.toInt < (pc10 s.toBitVec.toNat : Int)) (h : r.toInt ≤ n.toInt) : x = s → stk F s := fun g => by
  have u : pcq r x := hp
  unfold pcq at u
  rw [g] at u
  omega
def si (j x f : Int32) (F : Nat → Int32) : Prop := f = 1 → (F x.toNatClampNeg = 0 ∨ ∃ k : Nat, k < 10 ∧ (k : Int) < j.toInt ∧ hb x (nI k) ∧ ¬ F (wo x (nI k)).toNatClampNeg = 0)
theorem si_n {j x f : Int32} {F : Nat → Int32} (h : ¬ f = 1) : si j x f F := fun g => absurd g h
theorem si_0 {j x f : Int32} {F F' : Nat → Int32} (e : F' = upd F x.toNatClampNeg (vp_nar .boolean 0)) : si j x f F' := fun _ => Or.inl (by rw [e, pk_us]; decide)
theorem si_k {j j' x f : Int32} {F : Nat → Int32} (h : si j x f F) (e : lq j'.toInt (j.toInt + 1)) : si j' x f F := fun g => (h g).elim Or.inl (fun ⟨k, a, b, c⟩ => Or.inr ⟨k, a, by have := lqe e; omega, c⟩)
theorem wo_ne : ∀ n : Nat, n < 1024 → ∀ k : Nat, k < 10 → (nI n >>> (nI k &&& 31)) &&& 1 = 1 → ¬ (nI n &&& (((1 : Int32) <<< (nI k &&& 31)) ^^^ (-1))) = nI n := by decide +kernel
theorem wo_rg {s k : Int32} (h : rg 0 1023 s) : rg 0 1023 (wo s k) := rg_and h (by decide) (by decide) (by decide)
theorem si_f {j j' x f i v : Int32} {F F' : Nat → Int32} {a b : Int} (hx : rg 0 1023 x) (hj : rg a b j) (hh : hb x j) (ei : i = wo x j) (ev : v = F i.toNatClampNeg) (hv : v = f) (eF : F' = upd F x.toNatClampNeg (vp_nar .boolean f)) (e : lq j'.toInt (j.toInt + 1)) (h0 : 0 ≤ a := by decide) (h1 : b ≤ 9 := by decide) : si j' x f F' := by
  intro g
  have e' := lqe e
  obtain ⟨n, hn, rfl, p, q⟩ := rgN hj h0
  have z : (1 : Int32).toInt = 1 := by decide
  refine Or.inr ⟨n, by omega, by rw [e', nI_toInt hn]; omega, hh, ?_⟩
  have ne : (wo x (nI n)).toNatClampNeg ≠ x.toNatClampNeg := fun w => by
    have c1 := rg_cl (wo_rg (k := nI n) hx) (by decide)
    have c2 := rg_cl hx (by decide)
    obtain ⟨u, hu, rfl, p2, q2⟩ := rgN hx (by decide)
    exact wo_ne u (by omega) n (by omega) hh (show wo (nI u) (nI n) = nI u from Int32.toInt_inj.mp (by omega))
  rw [eF, pk_un ne, ← ei, ← ev, hv, g]
  decide
def sn (f x s : Int32) : Prop := f = 1 ∨ ¬ x = s
theorem ss_e {j x s f : Int32} {F : Nat → Int32} (h : si j x f F) (hn : sn f x s) : x = s → stk F s := fun g => by
  rcases hn with hf | hf
  · rw [← g]
    exact (h hf).elim Or.inl (fun ⟨k, a, _, c⟩ => Or.inr ⟨k, a, c⟩)
  · exact absurd g hf
theorem ss_n {x s r1 r2 d q : Int32} (h1 : pcq r1 s) (h2 : pcq r2 x) (ed : d = r1 - r2) (eq : q = d - d / 2 * 2) (h : ¬ q = 0) : ¬ x = s := fun g => by
  have u : pcq r2 x := h2
  rw [g] at u
  have e : r1 = r2 := Int32.toInt_inj.mp (by unfold pcq at h1 u; omega)
  exact absurd (by rw [eq, ed, e, Int32.sub_self]; decide) h
def bz2 (n s a : Int32) : Prop := n.toInt + (pc10 s.toBitVec.toNat : Int) = (pc10 a.toBitVec.toNat : Int)
theorem bz2_0 (a : Int32) : bz2 0 a a := by
  have z : (0 : Int32).toInt = 0 := by decide
  unfold bz2
  omega
theorem bz2_s {n n' s s' t : Int32} {a b : Int} (h : bz2 n s t) (hz : bz n s) (hs : rg a b s) (es : s' = s &&& (s - 1)) (en : n' = n + 1) (h0 : 1 ≤ a := by decide) (h1 : b ≤ 1023 := by decide) : bz2 n' s' t := by
  obtain ⟨j, hj, rfl, p, q⟩ := rgN hs (by omega)
  have hn := bz_rg hz
  have e1 := tadd hn (show rg 1 1 (1 : Int32) from ⟨by decide, by decide⟩) (by decide) (by decide)
  have z : (1 : Int32).toInt = 1 := by decide
  have e2 : nI j - 1 = nI (j - 1) := by
    have : j = (j - 1) + 1 := by omega
    rw [this, nI_pred]; rfl
  have l : j &&& (j - 1) ≤ j := Nat.and_le_left
  have e3 : nI j &&& nI (j - 1) = nI (j &&& (j - 1)) := by
    apply Int32.toBitVec_inj.mp
    rw [Int32.toBitVec_and]
    apply BitVec.eq_of_toNat_eq
    rw [BitVec.toNat_and, nI_nat hj, nI_nat (by omega), nI_nat (by omega)]
  have k := pc10_s j (by omega) (by omega)
  unfold bz2 at h ⊢
  rw [nI_nat hj] at h
  rw [en, es, e2, e3, nI_nat (by omega)]
  omega
theorem pcq_e {n s a : Int32} (h : bz2 n s a) (hs : rg 0 0 s) : pcq n a := by
  have e : s = 0 := is_eq hs (show rg 0 0 (0 : Int32) from ⟨by decide, by decide⟩)
  unfold bz2 at h
  unfold pcq
  rw [e] at h
  have z : pc10 (0 : Int32).toBitVec.toNat = 0 := by decide
  rw [z] at h
  omega
theorem pcq_i {r s : Int32} (h : pcq r s) : r.toInt = (pc10 s.toBitVec.toNat : Int) := h
