/-! RANGES of ints: what a walk knows of a number -/
def rg (lo hi : Int) (x : Int32) : Prop := lo ≤ x.toInt ∧ x.toInt ≤ hi
def lq (a b : Int) : Prop := a = b
def rl (k : Int) (x y : Int32) : Prop := x.toInt + k ≤ y.toInt
theorem lqe {a b : Int} (h : lq a b) : a = b := h
theorem lqm {a b : Int} (h : a = b) : lq a b := h
theorem lq0 (x : Int32) : lq x.toInt x.toInt := rfl
theorem rle {k : Int} {x y : Int32} (h : rl k x y) : x.toInt + k ≤ y.toInt := h
theorem rlm {k : Int} {x y : Int32} (h : x.toInt + k ≤ y.toInt) : rl k x y := h
theorem rga (x : Int32) : rg (-2147483648) 2147483647 x := ⟨by have := Int32.le_toInt x; omega, by have := Int32.toInt_lt x; omega⟩
theorem rgw {a b lo hi : Int} {x : Int32} (h : rg a b x) (h1 : lo ≤ a) (h2 : b ≤ hi) : rg lo hi x := ⟨Int.le_trans h1 h.1, Int.le_trans h.2 h2⟩
theorem rgq {x y : Int32} {lo hi : Int} (h : x = y) (hy : rg lo hi y) : rg lo hi x := h ▸ hy
theorem rgE {x : Int32} {k : Int} {y : Int32} (h : rg k k x) (hy : y.toInt = k) : x = y := Int32.toInt_inj.mp (by have := h.1; have := h.2; omega)
theorem bm {z : Int} (h1 : -2147483648 ≤ z) (h2 : z ≤ 2147483647) : z.bmod (2 ^ 32) = z := by
  rw [Int.bmod_def]
  by_cases h : 0 ≤ z
  · rw [Int.emod_eq_of_lt h (by omega)]
    rw [if_pos (by omega)]
  · have : z % ((2 ^ 32 : Nat) : Int) = z + 4294967296 := by omega
    rw [this, if_neg (by omega)]
    omega
theorem tadd {x y : Int32} {a b d f : Int} (hx : rg a b x) (hy : rg d f y) (h3 : -2147483648 ≤ a + d) (h4 : b + f ≤ 2147483647) : (x + y).toInt = x.toInt + y.toInt := by
  obtain ⟨p, q⟩ := hx
  obtain ⟨r, t⟩ := hy
  rw [Int32.toInt_add]
  exact bm (by omega) (by omega)
theorem tsub {x y : Int32} {a b d f : Int} (hx : rg a b x) (hy : rg d f y) (h3 : -2147483648 ≤ a - f) (h4 : b - d ≤ 2147483647) : (x - y).toInt = x.toInt - y.toInt := by
  obtain ⟨p, q⟩ := hx
  obtain ⟨r, t⟩ := hy
  rw [Int32.toInt_sub]
  exact bm (by omega) (by omega)
theorem tneg {x : Int32} {a b : Int} (hx : rg a b x) (h3 : -2147483647 ≤ a) : (-x).toInt = -x.toInt := by
  obtain ⟨p, q⟩ := hx
  have := Int32.toInt_lt x
  rw [Int32.toInt_neg]
  exact bm (by omega) (by omega)
theorem tmul {x y : Int32} {a b k : Int} (hx : rg a b x) (hy : y.toInt = k) (h0 : 0 ≤ k) (h3 : -2147483648 ≤ k * a) (h4 : k * b ≤ 2147483647) : (x * y).toInt = k * x.toInt := by
  obtain ⟨p, q⟩ := hx
  rw [Int32.toInt_mul, hy, Int.mul_comm x.toInt k]
  exact bm (Int.le_trans h3 (Int.mul_le_mul_of_nonneg_left p h0)) (Int.le_trans (Int.mul_le_mul_of_nonneg_left q h0) h4)
theorem tmul' {x y : Int32} {a b k : Int} (hx : rg a b x) (hy : y.toInt = k) (h0 : 0 ≤ k) (h3 : -2147483648 ≤ k * a) (h4 : k * b ≤ 2147483647) : (y * x).toInt = k * x.toInt := by rw [Int32.mul_comm]; exact tmul hx hy h0 h3 h4
theorem rg_add {x y : Int32} {a b d f lo hi : Int} (hx : rg a b x) (hy : rg d f y) (h3 : -2147483648 ≤ a + d) (h4 : b + f ≤ 2147483647) (h1 : lo ≤ a + d) (h2 : b + f ≤ hi) : rg lo hi (x + y) := by
  have e := tadd hx hy h3 h4
  obtain ⟨p, q⟩ := hx
  obtain ⟨r, t⟩ := hy
  exact ⟨by omega, by omega⟩
theorem rg_sub {x y : Int32} {a b d f lo hi : Int} (hx : rg a b x) (hy : rg d f y) (h3 : -2147483648 ≤ a - f) (h4 : b - d ≤ 2147483647) (h1 : lo ≤ a - f) (h2 : b - d ≤ hi) : rg lo hi (x - y) := by
  have e := tsub hx hy h3 h4
  obtain ⟨p, q⟩ := hx
  obtain ⟨r, t⟩ := hy
  exact ⟨by omega, by omega⟩
theorem rg_neg {x : Int32} {a b lo hi : Int} (hx : rg a b x) (h3 : -2147483647 ≤ a) (h1 : lo ≤ -b) (h2 : -a ≤ hi) : rg lo hi (-x) := by
  have e := tneg hx h3
  obtain ⟨p, q⟩ := hx
  exact ⟨by omega, by omega⟩
theorem rg_mul {x y : Int32} {a b k lo hi : Int} (hx : rg a b x) (hy : y.toInt = k) (h0 : 0 ≤ k) (h3 : -2147483648 ≤ k * a) (h4 : k * b ≤ 2147483647) (h1 : lo ≤ k * a) (h2 : k * b ≤ hi) : rg lo hi (x * y) := by
  have e := tmul hx hy h0 h3 h4
  obtain ⟨p, q⟩ := hx
  exact ⟨by rw [e]; exact Int.le_trans h1 (Int.mul_le_mul_of_nonneg_left p h0), by rw [e]; exact Int.le_trans (Int.mul_le_mul_of_nonneg_left q h0) h2⟩
theorem rg_mul' {x y : Int32} {a b k lo hi : Int} (hx : rg a b x) (hy : y.toInt = k) (h0 : 0 ≤ k) (h3 : -2147483648 ≤ k * a) (h4 : k * b ≤ 2147483647) (h1 : lo ≤ k * a) (h2 : k * b ≤ hi) : rg lo hi (y * x) := by rw [Int32.mul_comm]; exact rg_mul hx hy h0 h3 h4 h1 h2
theorem tN (x : Int32) : x.toInt = if 2 * x.toBitVec.toNat < 2 ^ 32 then (x.toBitVec.toNat : Int) else (x.toBitVec.toNat : Int) - (2 ^ 32 : Nat) := BitVec.toInt_eq_toNat_cond x.toBitVec
theorem tNn {x : Int32} (h : 0 ≤ x.toInt) : (x.toBitVec.toNat : Int) = x.toInt := by
  have e := tN x
  have := x.toBitVec.isLt
  split at e <;> omega
theorem tNs {x : Int32} (h : x.toBitVec.toNat < 2147483648) : x.toInt = (x.toBitVec.toNat : Int) := by
  rw [tN x, if_pos (by omega)]
theorem rg_and {x y : Int32} {a b lo hi : Int} (hx : rg a b x) (h0 : 0 ≤ a) (h1 : lo ≤ 0) (h2 : b ≤ hi) : rg lo hi (x &&& y) := by
  obtain ⟨p, q⟩ := hx
  have e := tNn (x := x) (by omega)
  have g : (x &&& y).toBitVec.toNat ≤ x.toBitVec.toNat := by rw [Int32.toBitVec_and, BitVec.toNat_and]; exact Nat.and_le_left
  have := Int32.toInt_lt x
  have e2 := tNs (x := x &&& y) (by omega)
  exact ⟨by omega, by omega⟩
theorem rl_and {x y : Int32} {a b : Int} (hx : rg a b x) (h0 : 0 ≤ a) : rl 0 (x &&& y) x := by
  obtain ⟨p, q⟩ := hx
  have e := tNn (x := x) (by omega)
  have g : (x &&& y).toBitVec.toNat ≤ x.toBitVec.toNat := by rw [Int32.toBitVec_and, BitVec.toNat_and]; exact Nat.and_le_left
  have := Int32.toInt_lt x
  have e2 := tNs (x := x &&& y) (by omega)
  unfold rl
  omega
theorem and_c (x y : Int32) : x &&& y = y &&& x := Int32.toBitVec_inj.mp (by rw [Int32.toBitVec_and, Int32.toBitVec_and, BitVec.and_comm])
theorem rg_and' {x y : Int32} {a b lo hi : Int} (hy : rg a b y) (h0 : 0 ≤ a) (h1 : lo ≤ 0) (h2 : b ≤ hi) : rg lo hi (x &&& y) := by rw [and_c]; exact rg_and hy h0 h1 h2
theorem rl_and' {x y : Int32} {a b : Int} (hy : rg a b y) (h0 : 0 ≤ a) : rl 0 (x &&& y) y := by rw [and_c]; exact rl_and hy h0
theorem rg_or {x y : Int32} {a b d f : Int} (k : Nat) {lo hi : Int} (hx : rg a b x) (hy : rg d f y) (h0 : 0 ≤ a) (h0' : 0 ≤ d) (hk : k ≤ 31) (hb : b < ((2 ^ k : Nat) : Int)) (hf : f < ((2 ^ k : Nat) : Int)) (h1 : lo ≤ 0) (h2 : ((2 ^ k : Nat) : Int) - 1 ≤ hi) : rg lo hi (x ||| y) := by
  obtain ⟨p, q⟩ := hx
  obtain ⟨r, t⟩ := hy
  have e := tNn (x := x) (by omega)
  have e' := tNn (x := y) (by omega)
  have g : (x ||| y).toBitVec.toNat < 2 ^ k := by rw [Int32.toBitVec_or, BitVec.toNat_or]; exact Nat.or_lt_two_pow (by omega) (by omega)
  have g2 : 2 ^ k ≤ 2 ^ 31 := Nat.pow_le_pow_right (by decide) hk
  have e2 := tNs (x := x ||| y) (by omega)
  exact ⟨by omega, by omega⟩
theorem rg_xor {x y : Int32} {a b d f : Int} (k : Nat) {lo hi : Int} (hx : rg a b x) (hy : rg d f y) (h0 : 0 ≤ a) (h0' : 0 ≤ d) (hk : k ≤ 31) (hb : b < ((2 ^ k : Nat) : Int)) (hf : f < ((2 ^ k : Nat) : Int)) (h1 : lo ≤ 0) (h2 : ((2 ^ k : Nat) : Int) - 1 ≤ hi) : rg lo hi (x ^^^ y) := by
  obtain ⟨p, q⟩ := hx
  obtain ⟨r, t⟩ := hy
  have e := tNn (x := x) (by omega)
  have e' := tNn (x := y) (by omega)
  have g : (x ^^^ y).toBitVec.toNat < 2 ^ k := by rw [Int32.toBitVec_xor, BitVec.toNat_xor]; exact Nat.xor_lt_two_pow (by omega) (by omega)
  have g2 : 2 ^ k ≤ 2 ^ 31 := Nat.pow_le_pow_right (by decide) hk
  have e2 := tNs (x := x ^^^ y) (by omega)
  exact ⟨by omega, by omega⟩
theorem shl1_all : ∀ n : Nat, n < 31 → ((1 : Int32) <<< (nI n &&& 31)).toInt = ((2 ^ n : Nat) : Int) := by decide +kernel
theorem rg_shl1 {y : Int32} {a b lo hi : Int} (hy : rg a b y) (h0 : 0 ≤ a) (hb : b ≤ 30) (h1 : lo ≤ ((2 ^ a.toNat : Nat) : Int)) (h2 : ((2 ^ b.toNat : Nat) : Int) ≤ hi) : rg lo hi ((1 : Int32) <<< (y &&& 31)) := by
  obtain ⟨r, t⟩ := hy
  obtain ⟨j, hj, rfl⟩ := nI_of (x := y) (fun h => by have := Int32.lt_iff_toInt_lt.mp h; have z : (0 : Int32).toInt = 0 := by decide
                                                     omega)
  rw [nI_toInt hj] at r t
  have e := shl1_all j (by omega)
  have g1 : 2 ^ a.toNat ≤ 2 ^ j := Nat.pow_le_pow_right (by decide) (by omega)
  have g2 : 2 ^ j ≤ 2 ^ b.toNat := Nat.pow_le_pow_right (by decide) (by omega)
  exact ⟨by rw [e]; omega, by rw [e]; omega⟩
/-! what a comparison tells -/
theorem ilt {x y : Int32} (h : x < y) : x.toInt < y.toInt := Int32.lt_iff_toInt_lt.mp h
theorem ile {x y : Int32} (h : x ≤ y) : x.toInt ≤ y.toInt := Int32.le_iff_toInt_le.mp h
theorem inlt {x y : Int32} (h : ¬ x < y) : y.toInt ≤ x.toInt := ile (Int32.not_lt.mp h)
theorem inle {x y : Int32} (h : ¬ x ≤ y) : y.toInt < x.toInt := ilt (Int32.not_le.mp h)
theorem cl_lt {x y : Int32} {a b d f lo hi : Int} (h : x.toInt < y.toInt) (hx : rg a b x) (hy : rg d f y) (h1 : lo ≤ a) (h2 : b ≤ hi ∨ f - 1 ≤ hi) : rg lo hi x := ⟨Int.le_trans h1 hx.1, by have := hx.2; have := hy.2; omega⟩
theorem cl_gt {x y : Int32} {a b d f lo hi : Int} (h : x.toInt < y.toInt) (hx : rg a b x) (hy : rg d f y) (h1 : lo ≤ d ∨ lo ≤ a + 1) (h2 : f ≤ hi) : rg lo hi y := ⟨by have := hx.1; have := hy.1; omega, Int.le_trans hy.2 h2⟩
theorem cl_le {x y : Int32} {a b d f lo hi : Int} (h : x.toInt ≤ y.toInt) (hx : rg a b x) (hy : rg d f y) (h1 : lo ≤ a) (h2 : b ≤ hi ∨ f ≤ hi) : rg lo hi x := ⟨Int.le_trans h1 hx.1, by have := hx.2; have := hy.2; omega⟩
theorem cl_ge {x y : Int32} {a b d f lo hi : Int} (h : x.toInt ≤ y.toInt) (hx : rg a b x) (hy : rg d f y) (h1 : lo ≤ d ∨ lo ≤ a) (h2 : f ≤ hi) : rg lo hi y := ⟨by have := hx.1; have := hy.1; omega, Int.le_trans hy.2 h2⟩
theorem cl_eq {x y : Int32} {a b d f lo hi : Int} (h : x = y) (hx : rg a b x) (hy : rg d f y) (h1 : lo ≤ a ∨ lo ≤ d) (h2 : b ≤ hi ∨ f ≤ hi) : rg lo hi x := by
  have e : x.toInt = y.toInt := by rw [h]
  exact ⟨by have := hx.1; have := hy.1; omega, by have := hx.2; have := hy.2; omega⟩
theorem cl_nlo {x y : Int32} {a b lo hi : Int} (h : ¬ x = y) (hx : rg a b x) (hy : y.toInt = a) (h1 : lo ≤ a + 1) (h2 : b ≤ hi) : rg lo hi x := by
  have e : ¬ x.toInt = y.toInt := fun q => h (Int32.toInt_inj.mp q)
  exact ⟨by have := hx.1; omega, by have := hx.2; omega⟩
theorem cl_nhi {x y : Int32} {a b lo hi : Int} (h : ¬ x = y) (hx : rg a b x) (hy : y.toInt = b) (h1 : lo ≤ a) (h2 : b - 1 ≤ hi) : rg lo hi x := by
  have e : ¬ x.toInt = y.toInt := fun q => h (Int32.toInt_inj.mp q)
  exact ⟨by have := hx.1; omega, by have := hx.2; omega⟩
/-! what can't be -/
theorem no_lt {x y : Int32} {a b d f : Int} (hx : rg a b x) (hy : rg d f y) (h : f ≤ a) : ¬ x < y := fun q => by have := ilt q; have := hx.1; have := hy.2; omega
theorem no_le {x y : Int32} {a b d f : Int} (hx : rg a b x) (hy : rg d f y) (h : f < a) : ¬ x ≤ y := fun q => by have := ile q; have := hx.1; have := hy.2; omega
theorem is_lt {x y : Int32} {a b d f : Int} (hx : rg a b x) (hy : rg d f y) (h : b < d) : x < y := Int32.lt_iff_toInt_lt.mpr (by have := hx.2; have := hy.1; omega)
theorem is_le {x y : Int32} {a b d f : Int} (hx : rg a b x) (hy : rg d f y) (h : b ≤ d) : x ≤ y := Int32.le_iff_toInt_le.mpr (by have := hx.2; have := hy.1; omega)
theorem no_eq {x y : Int32} {a b d f : Int} (hx : rg a b x) (hy : rg d f y) (h : b < d ∨ f < a) : ¬ x = y := fun q => by
  have e : x.toInt = y.toInt := by rw [q]
  have := hx.1; have := hx.2; have := hy.1; have := hy.2
  omega
theorem is_eq {x y : Int32} {k : Int} (hx : rg k k x) (hy : rg k k y) : x = y := Int32.toInt_inj.mp (by have := hx.1; have := hx.2; have := hy.1; have := hy.2; omega)
/-! rows of numbers -/
theorem rg_in {x : Int32} {a b : Int} {n : Nat} (h : rg a b x) (h1 : 0 ≤ a) (h2 : b < (n : Int)) : vp_in x n := vp_in_iff.mpr ⟨Int.le_trans h1 h.1, by have := h.2; omega⟩
theorem rg_cl {x : Int32} {a b : Int} (h : rg a b x) (h1 : 0 ≤ a) : ((x.toNatClampNeg : Nat) : Int) = x.toInt := by
  obtain ⟨j, hj, rfl⟩ := nI_of (x := x) (fun q => by have := ilt q; have z : (0 : Int32).toInt = 0 := by decide
                                                     have := h.1; omega)
  rw [nI_clamp hj, nI_toInt hj]
def sg (a b : Nat) (lo hi : Int) (f : Nat → Int32) : Prop := ∀ j : Nat, a ≤ j → j < b → rg lo hi (f j)
theorem sg_w {a b a' b' : Nat} {lo hi lo' hi' : Int} {f : Nat → Int32} (h : sg a b lo hi f) (h1 : a ≤ a') (h2 : b' ≤ b) (h3 : lo' ≤ lo) (h4 : hi ≤ hi') : sg a' b' lo' hi' f := fun j p q => rgw (h j (Nat.le_trans h1 p) (Nat.lt_of_lt_of_le q h2)) h3 h4
theorem sg_at {a b : Nat} {lo hi p q : Int} {f : Nat → Int32} {i : Int32} (h : sg a b lo hi f) (hi' : rg p q i) (h0 : 0 ≤ p) (h1 : (a : Int) ≤ p) (h2 : q < (b : Int)) : rg lo hi (f i.toNatClampNeg) := by
  have e := rg_cl hi' h0
  obtain ⟨r, t⟩ := hi'
  exact h _ (by omega) (by omega)
theorem sg_out {a b : Nat} {lo hi p q : Int} {f g : Nat → Int32} {i v : Int32} (h : sg a b lo hi f) (eg : g = upd f i.toNatClampNeg v) (hi' : rg p q i) (h0 : 0 ≤ p) (h1 : q < (a : Int) ∨ (b : Int) ≤ p) : sg a b lo hi g := by
  have e := rg_cl hi' h0
  obtain ⟨r, t⟩ := hi'
  intro j h2 h3
  rw [eg, pk_un (by omega)]
  exact h j h2 h3
theorem sg_val {a b : Nat} {lo hi : Int} {f g : Nat → Int32} {k : Nat} {v : Int32} (h : sg a b lo hi f) (eg : g = upd f k v) (hv : rg lo hi v) : sg a b lo hi g := by
  intro j h2 h3
  rw [eg]
  by_cases hj : j = k
  · rw [hj, pk_us]; exact hv
  · rw [pk_un hj]; exact h j h2 h3
theorem sg_src {a b : Nat} {lo hi p q p2 q2 : Int} {f g fs : Nat → Int32} {i i2 v : Int32} {a2 b2 : Nat} (h : sg a b lo hi f) (eg : g = upd f i.toNatClampNeg v) (hi' : rg p q i) (h0 : 0 ≤ p) (ev : v = fs i2.toNatClampNeg) (hi2 : rg p2 q2 i2) (h02 : 0 ≤ p2) (hs : sg a2 b2 lo hi fs)
    (hix : (a : Int) ≤ i.toInt → i.toInt < (b : Int) → (a2 : Int) ≤ i2.toInt ∧ i2.toInt < (b2 : Int)) : sg a b lo hi g := by
  have e := rg_cl hi' h0
  have e2 := rg_cl hi2 h02
  intro j h2 h3
  rw [eg]
  by_cases hj : j = i.toNatClampNeg
  · rw [hj, pk_us, ev]
    obtain ⟨r, t⟩ := hix (by omega) (by omega)
    exact hs _ (by omega) (by omega)
  · rw [pk_un hj]; exact h j h2 h3
theorem sg_mk {a b : Nat} {lo hi : Int} {f : Nat → Int32} (h : ∀ j : Nat, a ≤ j → j < b → rg lo hi (f j)) : sg a b lo hi f := h
theorem sg_z {a b : Nat} {lo hi : Int} (h1 : lo ≤ 0) (h2 : 0 ≤ hi) : sg a b lo hi (fun _ => 0) := fun _ _ _ => ⟨h1, h2⟩
theorem sg_nil {a b : Nat} {lo hi : Int} {f : Nat → Int32} (h : b ≤ a) : sg a b lo hi f := fun j p q => absurd (Nat.lt_of_lt_of_le q h) (Nat.not_lt.mpr p)
theorem sg_j {a b m : Nat} {lo hi : Int} {f : Nat → Int32} (h : sg a m lo hi f) (h' : sg m b lo hi f) : sg a b lo hi f := fun j p q => (Nat.lt_or_ge j m).elim (fun r => h j p r) (fun r => h' j r q)
theorem nar_z {x : Int32} (h : rg 0 1 x) : narrow .boolean (.int x) = .int x := by
  obtain ⟨p, q⟩ := h
  rcases (show x.toInt = 0 ∨ x.toInt = 1 by omega) with e | e
  · have : x = 0 := Int32.toInt_inj.mp (by rw [e]; decide)
    rw [this]; decide
  · have : x = 1 := Int32.toInt_inj.mp (by rw [e]; decide)
    rw [this]; decide
theorem rl_lt {x y : Int32} (h : x < y) : rl 1 x y := by have := ilt h; unfold rl; omega
theorem rl_le {x y : Int32} (h : x ≤ y) : rl 0 x y := by have := ile h; unfold rl; omega
theorem rl_nlt {x y : Int32} (h : ¬ x < y) : rl 0 y x := by have := inlt h; unfold rl; omega
theorem rl_nle {x y : Int32} (h : ¬ x ≤ y) : rl 1 y x := by have := inle h; unfold rl; omega
theorem rl_eq {x y : Int32} (h : x = y) : rl 0 x y := by rw [h]; unfold rl; omega
theorem rl_x {x y : Int32} {k a b d f lo hi : Int} (h : rl k x y) (hx : rg a b x) (hy : rg d f y) (h1 : lo ≤ a) (h2 : b ≤ hi ∨ f - k ≤ hi) : rg lo hi x := ⟨Int.le_trans h1 hx.1, by have := hx.2; have := hy.2; have := rle h; omega⟩
theorem rl_y {x y : Int32} {k a b d f lo hi : Int} (h : rl k x y) (hx : rg a b x) (hy : rg d f y) (h1 : lo ≤ d ∨ lo ≤ a + k) (h2 : f ≤ hi) : rg lo hi y := ⟨by have := hx.1; have := hy.1; have := rle h; omega, Int.le_trans hy.2 h2⟩
theorem rl_no {x y : Int32} {k a b d f : Int} (h : rl k x y) (hx : rg a b x) (hy : rg d f y) (h1 : f < a + k) : False := by have := hx.1; have := hy.2; have := rle h; omega
theorem rg_no {x : Int32} {a b d f : Int} (hx : rg a b x) (hy : rg d f x) (h1 : b < d ∨ f < a) : False := by have := hx.1; have := hx.2; have := hy.1; have := hy.2; omega
theorem rg_i {x : Int32} {a b d f lo hi : Int} (hx : rg a b x) (hy : rg d f x) (h1 : lo ≤ a ∨ lo ≤ d) (h2 : b ≤ hi ∨ f ≤ hi) : rg lo hi x := ⟨by have := hx.1; have := hy.1; omega, by have := hx.2; have := hy.2; omega⟩
theorem rem_all {a b : Nat} (ha : a < 2 ^ 31) (h0 : 0 < b) (hb : b < 2 ^ 31) : (nI a - nI a / nI b * nI b).toInt = ((a % b : Nat) : Int) := by
  rw [pk_rem ha h0 hb, nI_toInt (Nat.lt_of_le_of_lt (Nat.mod_le a b) ha)]
theorem rgN {x : Int32} {a b : Int} (h : rg a b x) (h0 : 0 ≤ a) : ∃ j : Nat, j < 2 ^ 31 ∧ x = nI j ∧ a ≤ (j : Int) ∧ (j : Int) ≤ b := by
  obtain ⟨j, hj, rfl⟩ := nI_of (x := x) (fun q => by have := ilt q; have z : (0 : Int32).toInt = 0 := by decide
                                                     have := h.1; omega)
  have e := nI_toInt hj
  exact ⟨j, hj, rfl, by have := h.1; omega, by have := h.2; omega⟩
theorem rg_rem {x y : Int32} {a b d f lo hi : Int} (hx : rg a b x) (hy : rg d f y) (h0 : 0 ≤ a) (h0' : 1 ≤ d) (h1 : lo ≤ 0) (h2 : b ≤ hi ∨ f - 1 ≤ hi) : rg lo hi (x - x / y * y) := by
  obtain ⟨i, hi', rfl, p, q⟩ := rgN hx h0
  obtain ⟨j, hj, rfl, r, t⟩ := rgN hy (by omega)
  have e := rem_all hi' (b := j) (by omega) hj
  have g1 := Nat.mod_lt i (y := j) (by omega)
  have g2 := Nat.mod_le i j
  exact ⟨by rw [e]; omega, by rw [e]; omega⟩
theorem nz_rg {y : Int32} {d f : Int} (hy : rg d f y) (h : 0 < d ∨ f < 0) : ¬ y = 0 := fun q => by
  rw [q] at hy
  have z : (0 : Int32).toInt = 0 := by decide
  have := hy.1; have := hy.2; omega
theorem ushr1e (x : Int32) : ((x.toUInt32 >>> ((1 : Int32).toUInt32 &&& Int32.toUInt32 31)).toInt32).toBitVec.toNat = x.toBitVec.toNat / 2 := by
  show (x.toUInt32 >>> ((1 : Int32).toUInt32 &&& Int32.toUInt32 31)).toNat = x.toUInt32.toNat / 2
  rw [UInt32.toNat_shiftRight, Nat.shiftRight_eq_div_pow]
  rfl
theorem ushr1 (x : Int32) : rg 0 2147483647 ((x.toUInt32 >>> ((1 : Int32).toUInt32 &&& Int32.toUInt32 31)).toInt32) := by
  have e := ushr1e x
  have := x.toBitVec.isLt
  have e2 := tNs (x := (x.toUInt32 >>> ((1 : Int32).toUInt32 &&& Int32.toUInt32 31)).toInt32) (by omega)
  exact ⟨by omega, by omega⟩
theorem ushr1r {x : Int32} {a b lo hi : Int} (hx : rg a b x) (h0 : 0 ≤ a) (h1 : lo ≤ a / 2) (h2 : b / 2 ≤ hi) : rg lo hi ((x.toUInt32 >>> ((1 : Int32).toUInt32 &&& Int32.toUInt32 31)).toInt32) := by
  have e := ushr1e x
  have := x.toBitVec.isLt
  have e2 := tNs (x := (x.toUInt32 >>> ((1 : Int32).toUInt32 &&& Int32.toUInt32 31)).toInt32) (by omega)
  obtain ⟨p, q⟩ := hx
  have e3 := tNn (x := x) (by omega)
  exact ⟨by omega, by omega⟩
theorem ushr2e (x : Int32) : ((x.toUInt32 >>> ((2 : Int32).toUInt32 &&& Int32.toUInt32 31)).toInt32).toBitVec.toNat = x.toBitVec.toNat / 4 := by
  show (x.toUInt32 >>> ((2 : Int32).toUInt32 &&& Int32.toUInt32 31)).toNat = x.toUInt32.toNat / 4
  rw [UInt32.toNat_shiftRight, Nat.shiftRight_eq_div_pow]
  rfl
theorem ushr2 (x : Int32) : rg 0 1073741823 ((x.toUInt32 >>> ((2 : Int32).toUInt32 &&& Int32.toUInt32 31)).toInt32) := by
  have e := ushr2e x
  have := x.toBitVec.isLt
  have e2 := tNs (x := (x.toUInt32 >>> ((2 : Int32).toUInt32 &&& Int32.toUInt32 31)).toInt32) (by omega)
  exact ⟨by omega, by omega⟩
theorem ushr2r {x : Int32} {a b lo hi : Int} (hx : rg a b x) (h0 : 0 ≤ a) (h1 : lo ≤ a / 4) (h2 : b / 4 ≤ hi) : rg lo hi ((x.toUInt32 >>> ((2 : Int32).toUInt32 &&& Int32.toUInt32 31)).toInt32) := by
  have e := ushr2e x
  have := x.toBitVec.isLt
  have e2 := tNs (x := (x.toUInt32 >>> ((2 : Int32).toUInt32 &&& Int32.toUInt32 31)).toInt32) (by omega)
  obtain ⟨p, q⟩ := hx
  have e3 := tNn (x := x) (by omega)
  exact ⟨by omega, by omega⟩
theorem ushr4e (x : Int32) : ((x.toUInt32 >>> ((4 : Int32).toUInt32 &&& Int32.toUInt32 31)).toInt32).toBitVec.toNat = x.toBitVec.toNat / 16 := by
  show (x.toUInt32 >>> ((4 : Int32).toUInt32 &&& Int32.toUInt32 31)).toNat = x.toUInt32.toNat / 16
  rw [UInt32.toNat_shiftRight, Nat.shiftRight_eq_div_pow]
  rfl
theorem ushr4 (x : Int32) : rg 0 268435455 ((x.toUInt32 >>> ((4 : Int32).toUInt32 &&& Int32.toUInt32 31)).toInt32) := by
  have e := ushr4e x
  have := x.toBitVec.isLt
  have e2 := tNs (x := (x.toUInt32 >>> ((4 : Int32).toUInt32 &&& Int32.toUInt32 31)).toInt32) (by omega)
  exact ⟨by omega, by omega⟩
theorem ushr4r {x : Int32} {a b lo hi : Int} (hx : rg a b x) (h0 : 0 ≤ a) (h1 : lo ≤ a / 16) (h2 : b / 16 ≤ hi) : rg lo hi ((x.toUInt32 >>> ((4 : Int32).toUInt32 &&& Int32.toUInt32 31)).toInt32) := by
  have e := ushr4e x
  have := x.toBitVec.isLt
  have e2 := tNs (x := (x.toUInt32 >>> ((4 : Int32).toUInt32 &&& Int32.toUInt32 31)).toInt32) (by omega)
  obtain ⟨p, q⟩ := hx
  have e3 := tNn (x := x) (by omega)
  exact ⟨by omega, by omega⟩
theorem ushr8e (x : Int32) : ((x.toUInt32 >>> ((8 : Int32).toUInt32 &&& Int32.toUInt32 31)).toInt32).toBitVec.toNat = x.toBitVec.toNat / 256 := by
  show (x.toUInt32 >>> ((8 : Int32).toUInt32 &&& Int32.toUInt32 31)).toNat = x.toUInt32.toNat / 256
  rw [UInt32.toNat_shiftRight, Nat.shiftRight_eq_div_pow]
  rfl
theorem ushr8 (x : Int32) : rg 0 16777215 ((x.toUInt32 >>> ((8 : Int32).toUInt32 &&& Int32.toUInt32 31)).toInt32) := by
  have e := ushr8e x
  have := x.toBitVec.isLt
  have e2 := tNs (x := (x.toUInt32 >>> ((8 : Int32).toUInt32 &&& Int32.toUInt32 31)).toInt32) (by omega)
  exact ⟨by omega, by omega⟩
theorem ushr8r {x : Int32} {a b lo hi : Int} (hx : rg a b x) (h0 : 0 ≤ a) (h1 : lo ≤ a / 256) (h2 : b / 256 ≤ hi) : rg lo hi ((x.toUInt32 >>> ((8 : Int32).toUInt32 &&& Int32.toUInt32 31)).toInt32) := by
  have e := ushr8e x
  have := x.toBitVec.isLt
  have e2 := tNs (x := (x.toUInt32 >>> ((8 : Int32).toUInt32 &&& Int32.toUInt32 31)).toInt32) (by omega)
  obtain ⟨p, q⟩ := hx
  have e3 := tNn (x := x) (by omega)
  exact ⟨by omega, by omega⟩
theorem ushr16e (x : Int32) : ((x.toUInt32 >>> ((16 : Int32).toUInt32 &&& Int32.toUInt32 31)).toInt32).toBitVec.toNat = x.toBitVec.toNat / 65536 := by
  show (x.toUInt32 >>> ((16 : Int32).toUInt32 &&& Int32.toUInt32 31)).toNat = x.toUInt32.toNat / 65536
  rw [UInt32.toNat_shiftRight, Nat.shiftRight_eq_div_pow]
  rfl
theorem ushr16 (x : Int32) : rg 0 65535 ((x.toUInt32 >>> ((16 : Int32).toUInt32 &&& Int32.toUInt32 31)).toInt32) := by
  have e := ushr16e x
  have := x.toBitVec.isLt
  have e2 := tNs (x := (x.toUInt32 >>> ((16 : Int32).toUInt32 &&& Int32.toUInt32 31)).toInt32) (by omega)
  exact ⟨by omega, by omega⟩
theorem ushr16r {x : Int32} {a b lo hi : Int} (hx : rg a b x) (h0 : 0 ≤ a) (h1 : lo ≤ a / 65536) (h2 : b / 65536 ≤ hi) : rg lo hi ((x.toUInt32 >>> ((16 : Int32).toUInt32 &&& Int32.toUInt32 31)).toInt32) := by
  have e := ushr16e x
  have := x.toBitVec.isLt
  have e2 := tNs (x := (x.toUInt32 >>> ((16 : Int32).toUInt32 &&& Int32.toUInt32 31)).toInt32) (by omega)
  obtain ⟨p, q⟩ := hx
  have e3 := tNn (x := x) (by omega)
  exact ⟨by omega, by omega⟩
theorem ushr24e (x : Int32) : ((x.toUInt32 >>> ((24 : Int32).toUInt32 &&& Int32.toUInt32 31)).toInt32).toBitVec.toNat = x.toBitVec.toNat / 16777216 := by
  show (x.toUInt32 >>> ((24 : Int32).toUInt32 &&& Int32.toUInt32 31)).toNat = x.toUInt32.toNat / 16777216
  rw [UInt32.toNat_shiftRight, Nat.shiftRight_eq_div_pow]
  rfl
theorem ushr24 (x : Int32) : rg 0 255 ((x.toUInt32 >>> ((24 : Int32).toUInt32 &&& Int32.toUInt32 31)).toInt32) := by
  have e := ushr24e x
  have := x.toBitVec.isLt
  have e2 := tNs (x := (x.toUInt32 >>> ((24 : Int32).toUInt32 &&& Int32.toUInt32 31)).toInt32) (by omega)
  exact ⟨by omega, by omega⟩
theorem ushr24r {x : Int32} {a b lo hi : Int} (hx : rg a b x) (h0 : 0 ≤ a) (h1 : lo ≤ a / 16777216) (h2 : b / 16777216 ≤ hi) : rg lo hi ((x.toUInt32 >>> ((24 : Int32).toUInt32 &&& Int32.toUInt32 31)).toInt32) := by
  have e := ushr24e x
  have := x.toBitVec.isLt
  have e2 := tNs (x := (x.toUInt32 >>> ((24 : Int32).toUInt32 &&& Int32.toUInt32 31)).toInt32) (by omega)
  obtain ⟨p, q⟩ := hx
  have e3 := tNn (x := x) (by omega)
  exact ⟨by omega, by omega⟩
theorem rg_div {x y : Int32} {a b k lo hi : Int} (hx : rg a b x) (hy : y.toInt = k) (h0 : 0 ≤ a) (hk : 1 ≤ k) (h1 : lo ≤ 0) (h2 : b / k ≤ hi) : rg lo hi (x / y) := by
  obtain ⟨i, hi', rfl, p, q⟩ := rgN hx h0
  obtain ⟨j, hj, rfl, r, t⟩ := rgN (x := y) (a := k) (b := k) ⟨by omega, by omega⟩ (by omega)
  have hjk : (j : Int) = k := by omega
  rw [pk_div hi' (by omega) hj]
  have e := nI_toInt (n := i / j) (Nat.lt_of_le_of_lt (Nat.div_le_self i j) hi')
  have g : (i : Int) / (j : Int) ≤ b / (j : Int) := Int.ediv_le_ediv (by omega) q
  have c : ((i / j : Nat) : Int) = (i : Int) / (j : Int) := Int.natCast_ediv i j
  have g' : ((i / j : Nat) : Int) ≤ b / k := by rw [c, ← hjk]; exact g
  exact ⟨by rw [e]; exact Int.le_trans h1 (Int.natCast_nonneg _), by rw [e]; exact Int.le_trans g' h2⟩
theorem rg_min {x y : Int32} {a b d f lo hi : Int} (hx : rg a b x) (hy : rg d f y) (h1 : lo ≤ a) (h2 : lo ≤ d) (h3 : b ≤ hi ∨ f ≤ hi) (z : Int32) (hz : (z = x ∧ x ≤ y) ∨ (z = y ∧ y ≤ x)) : rg lo hi z := by
  rcases hz with ⟨rfl, q⟩ | ⟨rfl, q⟩ <;> (have := ile q; have := hx.1; have := hx.2; have := hy.1; have := hy.2; exact ⟨by omega, by omega⟩)
theorem sg_one {lo hi : Int} {f g : Nat → Int32} {i v : Int32} (eg : g = upd f i.toNatClampNeg v) (hv : rg lo hi v) {k : Nat} (hk : i.toNatClampNeg = k := by decide) : sg k (k + 1) lo hi g := fun j h1 h2 => by
  have e : j = i.toNatClampNeg := by omega
  rw [eg, e, pk_us]; exact hv
theorem sg_cpy {a b n : Nat} {lo hi : Int} {f f0 g : Nat → Int32} (h : sg a b lo hi f) (eg : g = va_cpy f f0 (0 : Int32).toNatClampNeg (0 : Int32).toNatClampNeg ((nI n) : Int32).toNatClampNeg) (hb : b ≤ n ∧ n < 2 ^ 31) : sg a b lo hi g := fun j h1 h2 => by
  have e0 : (0 : Int32).toNatClampNeg = 0 := by decide
  rw [eg, nI_clamp hb.2, e0]
  unfold va_cpy
  rw [if_pos (by omega)]
  exact (by simpa using h j h1 h2)
theorem rg_mn {x y : Int32} {a b d f lo hi : Int} (hx : rg a b x) (hy : rg d f y) (h1 : lo ≤ a) (h2 : lo ≤ d) (h3 : b ≤ hi ∨ f ≤ hi) (_h4 : True) : rg lo hi (if y < x then y else x) := by
  by_cases q : y < x
  · rw [if_pos q]; have := ilt q; have := hx.1; have := hx.2; have := hy.1; have := hy.2; exact ⟨by omega, by omega⟩
  · rw [if_neg q]; have := inlt q; have := hx.1; have := hx.2; have := hy.1; have := hy.2; exact ⟨by omega, by omega⟩
theorem rg_mx {x y : Int32} {a b d f lo hi : Int} (hx : rg a b x) (hy : rg d f y) (h1 : b ≤ hi) (h2 : f ≤ hi) (h3 : lo ≤ a ∨ lo ≤ d) (_h4 : True) : rg lo hi (if x < y then y else x) := by
  by_cases q : x < y
  · rw [if_pos q]; have := ilt q; have := hx.1; have := hx.2; have := hy.1; have := hy.2; exact ⟨by omega, by omega⟩
  · rw [if_neg q]; have := inlt q; have := hx.1; have := hx.2; have := hy.1; have := hy.2; exact ⟨by omega, by omega⟩
theorem rl_mn1 (x y : Int32) : rl 0 (if y < x then y else x) x := by
  by_cases q : y < x
  · rw [if_pos q]; have := ilt q; unfold rl; omega
  · rw [if_neg q]; unfold rl; omega
theorem rl_mn2 (x y : Int32) : rl 0 (if y < x then y else x) y := by
  by_cases q : y < x
  · rw [if_pos q]; unfold rl; omega
  · rw [if_neg q]; have := inlt q; unfold rl; omega
theorem rl_mx1 (x y : Int32) : rl 0 x (if x < y then y else x) := by
  by_cases q : x < y
  · rw [if_pos q]; have := ilt q; unfold rl; omega
  · rw [if_neg q]; unfold rl; omega
theorem rl_mx2 (x y : Int32) : rl 0 y (if x < y then y else x) := by
  by_cases q : x < y
  · rw [if_pos q]; unfold rl; omega
  · rw [if_neg q]; have := inlt q; unfold rl; omega
theorem adk {x : Int32} {a b : Int} (h : rg a b x) (h0 : 0 ≤ a) (h1 : b < 26) : x.toNatClampNeg < 26 := by have e := rg_cl h h0; have := h.2; omega
theorem cmp_ne {x : Int64} {z : Int32} (e : z = lg_cmp x 0) (h : ¬ z = 0) : ¬ x = 0 := fun q => h (by rw [e, q]; decide)
theorem rl_rem {x y : Int32} {a b d f : Int} (hx : rg a b x) (hy : rg d f y) (h0 : 0 ≤ a) (h0' : 1 ≤ d) : rl 1 (x - x / y * y) y := by
  obtain ⟨i, hi', rfl, p, q⟩ := rgN hx h0
  obtain ⟨j, hj, rfl, r, t⟩ := rgN hy (by omega)
  have e := rem_all hi' (b := j) (by omega) hj
  have g1 := Nat.mod_lt i (y := j) (by omega)
  unfold rl
  rw [e, nI_toInt hj]
  omega
theorem sg_of {k : Nat} {i x : Int32} {lo hi : Int} {f : Nat → Int32} (ex : x = f i.toNatClampNeg) (hx : rg lo hi x) (hk : i.toNatClampNeg = k) : sg k (k + 1) lo hi f := fun j h1 h2 => by
  have e : j = i.toNatClampNeg := by omega
  rw [e, ← ex]; exact hx
def eqs (a b : Nat) (g f : Nat → Int32) : Prop := ∀ j : Nat, a ≤ j → j < b → g j = f j
theorem eqs_rf {a b : Nat} (f : Nat → Int32) : eqs a b f f := fun _ _ _ => rfl
theorem eqs_w {a b a' b' : Nat} {g f : Nat → Int32} (h : eqs a b g f) (h1 : a ≤ a') (h2 : b' ≤ b) : eqs a' b' g f := fun j p q => h j (Nat.le_trans h1 p) (Nat.lt_of_lt_of_le q h2)
theorem eqs_out {a b a' b' : Nat} {p q : Int} {f g h : Nat → Int32} {i v : Int32} (e : eqs a b f h) (eg : g = upd f i.toNatClampNeg v) (hi : rg p q i) (h0 : 0 ≤ p) (h1 : a ≤ a') (h2 : b' ≤ b) (h3 : q < (a' : Int) ∨ (b' : Int) ≤ p) : eqs a' b' g h := by
  have ec := rg_cl hi h0
  obtain ⟨r, t⟩ := hi
  intro j h4 h5
  rw [eg, pk_un (by omega)]
  exact e j (Nat.le_trans h1 h4) (Nat.lt_of_lt_of_le h5 h2)
theorem sg_eqs {a b c d : Nat} {lo hi : Int} {g f : Nat → Int32} (h : sg c d lo hi f) (e : eqs a b g f) (h1 : a ≤ c) (h2 : d ≤ b) : sg c d lo hi g := fun j p q => by
  rw [e j (Nat.le_trans h1 p) (Nat.lt_of_lt_of_le q h2)]; exact h j p q
theorem eqs_tr {a b c d x y : Nat} {g f h : Nat → Int32} (e1 : eqs a b g f) (e2 : eqs c d f h) (h1 : a ≤ x) (h2 : y ≤ b) (h3 : c ≤ x) (h4 : y ≤ d) : eqs x y g h := fun j p q => (e1 j (Nat.le_trans h1 p) (Nat.lt_of_lt_of_le q h2)).trans (e2 j (Nat.le_trans h3 p) (Nat.lt_of_lt_of_le q h4))
theorem fit_z {x : Int32} (h : rg 0 1 x) : fits .boolean (.int x) = true := by
  obtain ⟨p, q⟩ := h
  rcases (show x.toInt = 0 ∨ x.toInt = 1 by omega) with e | e
  · have : x = 0 := Int32.toInt_inj.mp (by rw [e]; decide)
    rw [this]; decide
  · have : x = 1 := Int32.toInt_inj.mp (by rw [e]; decide)
    rw [this]; decide
theorem ntzm_all : ∀ n : Nat, n < 1024 → 1 ≤ n → 0 ≤ ((nI n ^^^ (-1)) &&& (nI n - 1)).toInt ∧ ((nI n ^^^ (-1)) &&& (nI n - 1)).toInt ≤ 511 := by decide +kernel
theorem ntzm {x : Int32} (h : rg 1 1023 x) : rg 0 511 ((x ^^^ (-1)) &&& (x - 1)) := by
  obtain ⟨j, hj, rfl, p, q⟩ := rgN h (by decide)
  exact ntzm_all j (by omega) (by omega)
def lk (t k u : Int32) : Prop := 3 * t.toInt + k.toInt ≤ 3 * u.toInt + 1
theorem lkm {t k u : Int32} (h : 3 * t.toInt + k.toInt ≤ 3 * u.toInt + 1) : lk t k u := h
theorem lke {t k u : Int32} (h : lk t k u) : 3 * t.toInt + k.toInt ≤ 3 * u.toInt + 1 := h
theorem shr_all {j k : Nat} (hj : j < 2 ^ 31) (hk : k < 31) : ((nI j : Int32) >>> (nI k &&& 31)).toInt = ((j / 2 ^ k : Nat) : Int) := by
  have e : ((nI j : Int32) >>> (nI k &&& 31)).toInt = (nI j).toInt / ((2 ^ k : Nat) : Int) := by
    have h2 : ∀ k : Fin 31, ((nI k.val &&& 31).toBitVec.smod 32).toNat = k.val := by decide +kernel
    have h3 := h2 ⟨k, hk⟩
    show ((nI j).toBitVec.sshiftRight ((nI k &&& 31).toBitVec.smod 32).toNat).toInt = _
    rw [h3, BitVec.toInt_sshiftRight, Int.shiftRight_eq_div_pow]
    rfl
  rw [e, nI_toInt hj]
  exact (Int.natCast_ediv _ _).symm
theorem rg_shr {x y : Int32} {k : Nat} {a b lo hi : Int} (hx : rg a b x) (hy : y = nI k) (h0 : 0 ≤ a) (hk : k < 31) (h1 : lo ≤ a / ((2 ^ k : Nat) : Int)) (h2 : b / ((2 ^ k : Nat) : Int) ≤ hi) : rg lo hi (x >>> (y &&& 31)) := by
  obtain ⟨j, hj, rfl, p, q⟩ := rgN hx h0
  rw [hy]
  have e := shr_all hj hk
  have c : ((j / 2 ^ k : Nat) : Int) = (j : Int) / ((2 ^ k : Nat) : Int) := Int.natCast_ediv _ _
  have hp : (0 : Int) < ((2 ^ k : Nat) : Int) := Int.natCast_pos.mpr (Nat.two_pow_pos k)
  exact ⟨by rw [e, c]; exact Int.le_trans h1 (Int.ediv_le_ediv hp p), by rw [e, c]; exact Int.le_trans (Int.ediv_le_ediv hp q) h2⟩
def pc10 (j : Nat) : Nat := ((List.range 10).filter (fun i => j.testBit i)).length
theorem pc10_le (j : Nat) : pc10 j ≤ 10 := by
  unfold pc10
  exact Nat.le_trans (List.length_filter_le _ _) (by rw [List.length_range]; exact Nat.le_refl 10)
theorem pc10_s : ∀ j : Nat, j < 1024 → 1 ≤ j → pc10 (j &&& (j - 1)) + 1 = pc10 j := by decide +kernel
def bz (n s : Int32) : Prop := 0 ≤ n.toInt ∧ n.toInt + (pc10 s.toBitVec.toNat : Int) ≤ 10
theorem bz_rg {n s : Int32} (h : bz n s) : rg 0 10 n := ⟨h.1, by have := h.2; omega⟩
theorem bz_0 {s : Int32} {a b : Int} (_h : rg a b s) : bz 0 s := ⟨by decide, by
  have := pc10_le s.toBitVec.toNat
  have z : (0 : Int32).toInt = 0 := by decide
  omega⟩
theorem nI_nat {j : Nat} (h : j < 2 ^ 31) : (nI j).toBitVec.toNat = j := by
  have e := tNn (x := nI j) (by rw [nI_toInt h]; omega)
  rw [nI_toInt h] at e
  omega
theorem bz_s {n n' s s' : Int32} {a b : Int} (h : bz n s) (hs : rg a b s) (es : s' = s &&& (s - 1)) (en : n' = n + 1) (h0 : 1 ≤ a := by decide) (h1 : b ≤ 1023 := by decide) : bz n' s' := by
  obtain ⟨j, hj, rfl, p, q⟩ := rgN hs (by omega)
  have hn := bz_rg h
  have e1 := tadd hn (show rg 1 1 (1 : Int32) from ⟨by decide, by decide⟩) (by decide) (by decide)
  have z : (1 : Int32).toInt = 1 := by decide
  have e2 : nI j - 1 = nI (j - 1) := by
    have : j = (j - 1) + 1 := by omega
    rw [this, nI_pred]; rfl
  have e3 : nI j &&& nI (j - 1) = nI (j &&& (j - 1)) := by
    apply Int32.toBitVec_inj.mp
    rw [Int32.toBitVec_and]
    apply BitVec.eq_of_toNat_eq
    have l : j &&& (j - 1) ≤ j := Nat.and_le_left
    rw [BitVec.toNat_and, nI_nat hj, nI_nat (by omega), nI_nat (by omega)]
  have l : j &&& (j - 1) ≤ j := Nat.and_le_left
  have k := pc10_s j (by omega) (by omega)
  obtain ⟨u, v⟩ := h
  rw [nI_nat hj] at v
  refine ⟨by rw [en]; omega, ?_⟩
  rw [en, es, e2, e3, nI_nat (by omega)]
  omega
theorem bm64 {z : Int} (h1 : -9223372036854775808 ≤ z) (h2 : z ≤ 9223372036854775807) : z.bmod (2 ^ 64) = z := by
  rw [Int.bmod_def]
  by_cases h : 0 ≤ z
  · rw [Int.emod_eq_of_lt h (by omega)]
    rw [if_pos (by omega)]
  · have : z % ((2 ^ 64 : Nat) : Int) = z + 18446744073709551616 := by omega
    rw [this, if_neg (by omega)]
    omega
theorem rem64 (x y : Int64) : (x - x / y * y).toInt = x.toInt.tmod y.toInt := by
  have u := Int64.toInt_mod x y
  have hi := Int64.toInt_lt (x % y)
  have lo := Int64.le_toInt (x % y)
  have e : (x - x / y * y).toInt = (x.toInt.tmod y.toInt).bmod (2 ^ 64) := by
    rw [Int64.toInt_sub, Int64.toInt_mul, Int64.toInt_div, Int.bmod_mul_bmod, Int.sub_bmod_bmod, Int.mul_comm (x.toInt.tdiv y.toInt) y.toInt, ← Int.tmod_def]
  rw [e]
  exact bm64 (by omega) (by omega)
theorem gcd_dec {x y r : Int64} (e : r = x - x / y * y) (h : ¬ y = 0) : r.toInt.natAbs < y.toInt.natAbs := by
  have h0 : y.toInt ≠ 0 := fun q => h (Int64.toInt_inj.mp (by rw [q]; decide))
  rw [e, rem64, Int.natAbs_tmod]
  exact Nat.mod_lt _ (by omega)
def pw (a : Int64) (k : Int32) : Prop := 0 ≤ k.toInt ∧ k.toInt ≤ 10 ∧ a.toInt = ((12 ^ k.toInt.toNat : Nat) : Int)
theorem pw_0 : pw 1 0 := by unfold pw; decide
theorem pw_nz {a : Int64} {k : Int32} (h : pw a k) : ¬ a = 0 := fun q => by
  have e := h.2.2
  rw [q] at e
  have z : (0 : Int64).toInt = 0 := by decide
  have p : 0 < 12 ^ k.toInt.toNat := Nat.pow_pos (by decide)
  omega
theorem pw_le : ∀ n : Nat, n ≤ 10 → 12 ^ n ≤ 61917364224 := by decide +kernel
theorem pw_s {a a' : Int64} {k k' : Int32} {c d : Int} (h : pw a k) (hk : rg c d k) (ea : a' = a * 12) (ek : k' = k + 1) (h1 : d ≤ 9 := by decide) : pw a' k' := by
  obtain ⟨p, q, r⟩ := h
  have hd := hk.2
  have e1 := tadd (show rg 0 9 k from ⟨p, by omega⟩) (show rg 1 1 (1 : Int32) from ⟨by decide, by decide⟩) (by decide) (by decide)
  have z : (1 : Int32).toInt = 1 := by decide
  have e2 : k'.toInt = k.toInt + 1 := by rw [ek]; omega
  have e3 : k'.toInt.toNat = k.toInt.toNat + 1 := by omega
  have b := pw_le (k.toInt.toNat) (by omega)
  refine ⟨by omega, by omega, ?_⟩
  have t12 : (12 : Int64).toInt = 12 := by decide
  have m : ((12 ^ k.toInt.toNat : Nat) : Int) * 12 = ((12 ^ k.toInt.toNat * 12 : Nat) : Int) := by omega
  rw [ea, Int64.toInt_mul, t12, r, e3, Nat.pow_succ, m]
  exact bm64 (by omega) (by omega)
def pr1 (a b : Int32) : Prop := (rg 0 4 a ∧ rg 0 9 b) ∨ (rg 5 6 a ∧ rg 0 4 b) ∨ rg 7 7 a
def pok (A B : Nat → Int32) : Prop := ∀ j : Nat, j < 40 → pr1 (A j) (B j)
theorem pok_st {A B A' B' : Nat → Int32} {i a b : Int32} (h : pok A B) (eA : A' = upd A i.toNatClampNeg a) (eB : B' = upd B i.toNatClampNeg b) (hp : pr1 a b) : pok A' B' := by
  intro j hj
  rw [eA, eB]
  by_cases e : j = i.toNatClampNeg
  · rw [e, pk_us, pk_us]; exact hp
  · rw [pk_un e, pk_un e]; exact h j hj
theorem pok_at {A B : Nat → Int32} {i a b : Int32} {p q : Int} (h : pok A B) (hi : rg p q i) (h0 : 0 ≤ p) (h1 : q < 40) (ea : a = A i.toNatClampNeg) (eb : b = B i.toNatClampNeg) : pr1 a b := by
  have e := rg_cl hi h0
  have := hi.2
  rw [ea, eb]
  exact h _ (by omega)
def bk (f g : Int32) : Prop := 1 ≤ f.toInt → 1 ≤ g.toInt
theorem bk_rf (f : Int32) : bk f f := fun h => h
theorem bk_1 {f g : Int32} {a b : Int} (h : rg a b g) (h1 : 1 ≤ a) : bk f g := fun _ => Int.le_trans h1 h.1
theorem bk_0 {f g : Int32} {a b c d : Int} (h : rg a b f) (_h : rg c d g) (h1 : b ≤ 0) : bk f g := fun q => absurd (Int.le_trans q h.2) (by omega)
theorem bk_tr {f g h : Int32} (a : bk f g) (b : bk g h) : bk f h := fun q => b (a q)
theorem cmp_eq {x y : Int64} {z : Int32} (e : z = lg_cmp x y) (h : z = 0) : x = y := by
  rw [h] at e
  unfold lg_cmp at e
  split at e
  · exact absurd e (by decide)
  · split at e
    · first | assumption | exact absurd e (by decide)
    · first | exact absurd e (by decide) | (apply Int64.toInt_inj.mp; rename_i p q; have := mt Int64.lt_iff_toInt_lt.mpr p; have := mt Int64.lt_iff_toInt_lt.mpr q; omega)
theorem cmp_nn {x y : Int64} {z : Int32} (e : z = lg_cmp x y) (h : ¬ z = 0) : ¬ x = y := fun q => h (by
  rw [e, q]
  unfold lg_cmp
  split
  · rename_i p; have := Int64.lt_iff_toInt_lt.mp p; omega
  · split
    · first | rfl | (rename_i p; have := Int64.lt_iff_toInt_lt.mp p; omega)
    · first | rfl | (rename_i p _; exact absurd rfl p) | simp_all)
theorem cmp_neg {x : Int64} (h : x.toInt < 27) : rg (-2147483648) (-1) (lg_cmp x 27) := by
  have g : x < 27 := Int64.lt_iff_toInt_lt.mpr (by have z : (27 : Int64).toInt = 27 := by decide
                                                   omega)
  have e : lg_cmp x 27 = -1 := by
    have z : (27 : Int64).toInt = 27 := by decide
    unfold lg_cmp
    rw [if_neg (fun q => by have := Int64.lt_iff_toInt_lt.mp q; omega), if_neg (fun q => by rw [q, z] at h; omega)]
  rw [e]
  exact ⟨by decide, by decide⟩
theorem lmax (x : Int64) : x.toInt < 109418989131512359209 := by have := Int64.toInt_lt x; omega
theorem div27 {a r : Int64} {L M : Int} (er : r = a / 27) (h : a.toInt < L) (hL : L = 27 * M) (hM : 0 < M) : r.toInt < M := by
  have z : (27 : Int64).toInt = 27 := by decide
  have hi := Int64.toInt_lt a
  have lo := Int64.le_toInt a
  rw [er, Int64.toInt_div, z]
  by_cases g : 0 ≤ a.toInt
  · rw [Int.tdiv_eq_ediv_of_nonneg g, bm64 (by omega) (by omega)]
    omega
  · have e : a.toInt.tdiv 27 = -((-a.toInt) / 27) := by
      have q : a.toInt = -(-a.toInt) := by omega
      rw [q, Int.neg_tdiv, Int.tdiv_eq_ediv_of_nonneg (by omega)]
      simp
    rw [e, bm64 (by omega) (by omega)]
    omega
def nf (b : Nat) (n : Int32) (f : Nat → Int64) (w : Int64) : Prop := ∀ j : Nat, (j : Int) < n.toInt → f (b + j) ≠ w
def fd (b : Nat) (r : Int32) (f : Nat → Int64) (w : Int64) : Prop := f (b + r.toNatClampNeg) = w
theorem nf_0 (b : Nat) (f : Nat → Int64) (w : Int64) : nf b 0 f w := by
  intro j h
  have z : (0 : Int32).toInt = 0 := by decide
  omega
theorem nf_s {b : Nat} {k k' i : Int32} {f : Nat → Int64} {w v : Int64} {p q : Int} (h : nf b k f w) (hk : rg p q k) (hne : ¬ v = w) (ev : v = f i.toNatClampNeg) (ei : lq i.toInt ((b : Int) + k.toInt)) (ek : lq k'.toInt (k.toInt + 1)) (h0 : 0 ≤ p := by decide) : nf b k' f w := by
  have e1 := lqe ei
  have e2 := lqe ek
  have hp := hk.1
  intro j hj
  by_cases g : (j : Int) = k.toInt
  · have c := rg_cl (x := i) (a := 0) (b := i.toInt) ⟨by omega, by omega⟩ (by decide)
    have : b + j = i.toNatClampNeg := by omega
    rw [this, ← ev]; exact hne
  · exact h j (by omega)
theorem nf_w {b : Nat} {k n : Int32} {f : Nat → Int64} {w : Int64} (h : nf b k f w) (hr : rl 0 n k) : nf b n f w := fun j hj => h j (by have := rle hr; omega)
theorem fd_m {b : Nat} {r i : Int32} {f : Nat → Int64} {w v : Int64} {p q : Int} (he : v = w) (ev : v = f i.toNatClampNeg) (hr : rg p q r) (ei : lq i.toInt ((b : Int) + r.toInt)) (h0 : 0 ≤ p := by decide) : fd b r f w := by
  have e1 := lqe ei
  have c1 := rg_cl hr h0
  have hp := hr.1
  have c := rg_cl (x := i) (a := 0) (b := i.toInt) ⟨by omega, by omega⟩ (by decide)
  have : b + r.toNatClampNeg = i.toNatClampNeg := by omega
  unfold fd
  rw [this, ← ev]; exact he
theorem fd_lt {r n : Int32} {p q : Int} (h : rl 1 r n) (hr : rg p q r) (h0 : 0 ≤ p := by decide) : ((r.toNatClampNeg : Nat) : Int) < n.toInt := by
  have c1 := rg_cl hr h0
  have := rle h
  omega
def pok2 (L : Nat → Int32) : Prop := ∀ k : Nat, k < 40 → pr1 (L (2 * k)) (L (2 * k + 1))
theorem pok2_st {L L1 L2 : Nat → Int32} {i1 i2 a x m : Int32} {p q : Int} (h : pok2 L) (e1 : L1 = upd L i1.toNatClampNeg a) (e2 : L2 = upd L1 i2.toNatClampNeg x) (h1 : lq i1.toInt (2 * m.toInt)) (h2 : lq i2.toInt (2 * m.toInt + 1)) (hm : rg p q m) (hp : pr1 a x) (h0 : 0 ≤ p := by decide) : pok2 L2 := by
  have g1 := lqe h1
  have g2 := lqe h2
  have hm1 := hm.1
  have c1 := rg_cl (x := i1) (a := 0) (b := i1.toInt) ⟨by omega, by omega⟩ (by decide)
  have c2 := rg_cl (x := i2) (a := 0) (b := i2.toInt) ⟨by omega, by omega⟩ (by decide)
  intro k hk
  rw [e2, e1]
  by_cases g : 2 * k = i1.toNatClampNeg
  · rw [pk_un (by omega), g, pk_us, show i1.toNatClampNeg + 1 = i2.toNatClampNeg by omega, pk_us]; exact hp
  · rw [pk_un (by omega), pk_un (by omega), pk_un (by omega), pk_un (by omega)]; exact h k hk
theorem pok2_st3 {L0 L1 L2 L3 : Nat → Int32} {i1 i2 i3 a x t m : Int32} {p q : Int} (h : pok2 L2) (e1 : L1 = upd L0 i1.toNatClampNeg a) (e2 : L2 = upd L1 i2.toNatClampNeg x) (e3 : L3 = upd L2 i3.toNatClampNeg t) (h1 : lq i1.toInt (2 * m.toInt)) (h2 : lq i2.toInt (2 * m.toInt + 1)) (h3 : lq i3.toInt (2 * m.toInt + 1)) (hm : rg p q m) (hp : pr1 a t) (h0 : 0 ≤ p := by decide) : pok2 L3 := by
  have g1 := lqe h1
  have g2 := lqe h2
  have g3 := lqe h3
  have hm1 := hm.1
  have c1 := rg_cl (x := i1) (a := 0) (b := i1.toInt) ⟨by omega, by omega⟩ (by decide)
  have c2 := rg_cl (x := i2) (a := 0) (b := i2.toInt) ⟨by omega, by omega⟩ (by decide)
  have c3 := rg_cl (x := i3) (a := 0) (b := i3.toInt) ⟨by omega, by omega⟩ (by decide)
  intro k hk
  by_cases g : 2 * k = i1.toNatClampNeg
  · rw [e3, pk_un (by omega), show 2 * k + 1 = i3.toNatClampNeg by omega, pk_us, e2, pk_un (by omega), e1, g, pk_us]; exact hp
  · rw [e3, pk_un (by omega), pk_un (by omega)]; exact h k hk
theorem pok2_one {L L1 : Nat → Int32} {i v : Int32} {p q : Int} (h : pok2 L) (e1 : L1 = upd L i.toNatClampNeg v) (he : i.toInt % 2 = 0) (hi : rg p q i) (hv : rg 0 4 v) (hx : rg 0 9 (L (i.toNatClampNeg + 1))) (h0 : 0 ≤ p := by decide) : pok2 L1 := by
  have c := rg_cl hi h0
  intro k hk
  by_cases g : 2 * k = i.toNatClampNeg
  · rw [e1, pk_un (j := 2 * k + 1) (by omega), g, pk_us]; exact Or.inl ⟨hv, hx⟩
  · rw [e1, pk_un (by omega), pk_un (by omega)]; exact h k hk
theorem hj_of {L1 L2 : Nat → Int32} {i1 i2 x m : Int32} {p q : Int} (e2 : L2 = upd L1 i2.toNatClampNeg x) (h1 : lq i1.toInt (2 * m.toInt)) (h2 : lq i2.toInt (2 * m.toInt + 1)) (hi : rg p q i1) (hx : rg 0 9 x) (h0 : 0 ≤ p := by decide) : rg 0 9 (L2 (i1.toNatClampNeg + 1)) := by
  have g1 := lqe h1
  have g2 := lqe h2
  have c1 := rg_cl hi h0
  have hi1 := hi.1
  have c2 := rg_cl (x := i2) (a := 0) (b := i2.toInt) ⟨by omega, by omega⟩ (by decide)
  rw [e2, show i1.toNatClampNeg + 1 = i2.toNatClampNeg by omega, pk_us]; exact hx
theorem pok2_at {L : Nat → Int32} {i i2 a x : Int32} {p q : Int} (h : pok2 L) (he : i.toInt % 2 = 0) (hi : rg p q i) (h0 : 0 ≤ p) (h1 : q < 80) (ea : a = L i.toNatClampNeg) (ex : x = L i2.toNatClampNeg) (e2 : lq i2.toInt (i.toInt + 1)) : pr1 a x := by
  have g2 := lqe e2
  have c1 := rg_cl hi h0
  have hi1 := hi.1
  have hi2 := hi.2
  have c2 := rg_cl (x := i2) (a := 0) (b := i2.toInt) ⟨by omega, by omega⟩ (by decide)
  have r := h (i.toNatClampNeg / 2) (by omega)
  rw [show 2 * (i.toNatClampNeg / 2) = i.toNatClampNeg by omega] at r
  rw [ea, ex, show i2.toNatClampNeg = i.toNatClampNeg + 1 by omega]
  exact r
def tk (c x y : Int32) (k : Nat) : Prop := (c = 1 → 0 ≤ x.toInt ∧ x.toInt < (k : Int)) ∧ ((c = 2 ∨ c = 3) → (0 ≤ x.toInt ∧ x.toInt < (k : Int)) ∧ 0 ≤ y.toInt ∧ y.toInt < (k : Int)) ∧ (c = 71 → rg 0 39 x)
def tokb (b : Nat) (f : Nat → Int32) : Prop := ∀ k : Nat, k < 60 → tk (f (b + 4 * k)) (f (b + 4 * k + 1)) (f (b + 4 * k + 2)) k
theorem tokb_eq {b : Nat} {f g : Nat → Int32} (h : tokb b f) (e : eqs b (b + 240) g f) : tokb b g := fun k hk => by
  rw [e _ (by omega) (by omega), e _ (by omega) (by omega), e _ (by omega) (by omega)]; exact h k hk
theorem tokb_out {b : Nat} {f g : Nat → Int32} {i v : Int32} {p q : Int} (h : tokb b f) (eg : g = upd f i.toNatClampNeg v) (hi : rg p q i) (h0 : 0 ≤ p) (h1 : q < (b : Int) ∨ (b : Int) + 240 ≤ p) : tokb b g := by
  have c := rg_cl hi h0
  obtain ⟨r, t⟩ := hi
  intro k hk
  rw [eg, pk_un (by omega), pk_un (by omega), pk_un (by omega)]; exact h k hk
theorem tk_z1 {x y : Int32} {k : Nat} : tk 0 x y k := ⟨fun h => absurd h (by decide), fun h => h.elim (fun h => absurd h (by decide)) (fun h => absurd h (by decide)), fun h => absurd h (by decide)⟩
theorem tk_z2 {c x y : Int32} {k : Nat} (h : tk c x y k) : tk c 0 y k := by
  have z : (0 : Int32).toInt = 0 := by decide
  refine ⟨fun e => ?_, fun e => ?_, fun _ => ⟨by decide, by decide⟩⟩
  · obtain ⟨p, q⟩ := h.1 e
    exact ⟨by omega, by omega⟩
  · obtain ⟨⟨p, q⟩, r⟩ := h.2.1 e
    exact ⟨⟨by omega, by omega⟩, r⟩
theorem tk_z3 {c x y : Int32} {k : Nat} (h : tk c x y k) : tk c x 0 k := by
  have z : (0 : Int32).toInt = 0 := by decide
  refine ⟨h.1, fun e => ?_, h.2.2⟩
  obtain ⟨⟨p, q⟩, r, t⟩ := h.2.1 e
  exact ⟨⟨p, q⟩, by omega, by omega⟩
theorem tokb_z {b : Nat} {f g : Nat → Int32} {i : Nat} (h : tokb b f) (eg : g = upd f i 0) : tokb b g := by
  intro k hk
  rw [eg]
  by_cases g0 : b + 4 * k = i
  · rw [g0, pk_us]; exact tk_z1
  · by_cases g1 : b + 4 * k + 1 = i
    · rw [pk_un g0, g1, pk_us, pk_un (by omega)]; exact tk_z2 (h k hk)
    · by_cases g2 : b + 4 * k + 2 = i
      · rw [pk_un g0, pk_un g1, g2, pk_us]; exact tk_z3 (h k hk)
      · rw [pk_un g0, pk_un g1, pk_un g2]; exact h k hk
theorem tokb_st {f f1 f2 f3 f4 : Nat → Int32} {i1 i2 i3 i4 c a b r n : Int32} {p q : Int} (h : tokb 0 f) (e1 : f1 = upd f i1.toNatClampNeg c) (e2 : f2 = upd f1 i2.toNatClampNeg a) (e3 : f3 = upd f2 i3.toNatClampNeg b) (e4 : f4 = upd f3 i4.toNatClampNeg r) (l1 : lq i1.toInt (4 * n.toInt)) (l2 : lq i2.toInt (4 * n.toInt + 1)) (l3 : lq i3.toInt (4 * n.toInt + 2)) (l4 : lq i4.toInt (4 * n.toInt + 3)) (hn : rg p q n) (ht : tk c a b n.toNatClampNeg) (h0 : 0 ≤ p := by decide) : tokb 0 f4 := by
  have g1 := lqe l1
  have g2 := lqe l2
  have g3 := lqe l3
  have g4 := lqe l4
  have cn := rg_cl hn h0
  have hn1 := hn.1
  have c1 := rg_cl (x := i1) (a := 0) (b := i1.toInt) ⟨by omega, by omega⟩ (by decide)
  have c2 := rg_cl (x := i2) (a := 0) (b := i2.toInt) ⟨by omega, by omega⟩ (by decide)
  have c3 := rg_cl (x := i3) (a := 0) (b := i3.toInt) ⟨by omega, by omega⟩ (by decide)
  have c4 := rg_cl (x := i4) (a := 0) (b := i4.toInt) ⟨by omega, by omega⟩ (by decide)
  intro k hk
  by_cases g : k = n.toNatClampNeg
  · have u0 : f4 (0 + 4 * k) = c := by rw [e4, pk_un (by omega), e3, pk_un (by omega), e2, pk_un (by omega), e1, show 0 + 4 * k = i1.toNatClampNeg by omega, pk_us]
    have u1 : f4 (0 + 4 * k + 1) = a := by rw [e4, pk_un (by omega), e3, pk_un (by omega), e2, show 0 + 4 * k + 1 = i2.toNatClampNeg by omega, pk_us]
    have u2 : f4 (0 + 4 * k + 2) = b := by rw [e4, pk_un (by omega), e3, show 0 + 4 * k + 2 = i3.toNatClampNeg by omega, pk_us]
    rw [u0, u1, u2, g]; exact ht
  · have u : ∀ d : Nat, d < 3 → f4 (0 + 4 * k + d) = f (0 + 4 * k + d) := fun d hd => by rw [e4, pk_un (by omega), e3, pk_un (by omega), e2, pk_un (by omega), e1, pk_un (by omega)]
    rw [show f4 (0 + 4 * k) = f (0 + 4 * k) from u 0 (by decide), u 1 (by decide), u 2 (by decide)]; exact h k hk
theorem tk_1 {c x y n : Int32} (hc : rg 1 1 c) (hx : 0 ≤ x.toInt ∧ x.toInt < n.toInt) : tk c x y n.toNatClampNeg := by
  have cn := rg_cl (x := n) (a := 0) (b := n.toInt) ⟨by omega, by omega⟩ (by decide)
  exact ⟨fun _ => ⟨hx.1, by omega⟩, fun h => h.elim (fun h => absurd h (no_eq hc (show rg 2 2 (2 : Int32) from ⟨by decide, by decide⟩) (by decide))) (fun h => absurd h (no_eq hc (show rg 3 3 (3 : Int32) from ⟨by decide, by decide⟩) (by decide))), fun h => absurd h (no_eq hc (show rg 71 71 (71 : Int32) from ⟨by decide, by decide⟩) (by decide))⟩
theorem tk_23 {c x y n : Int32} {a b : Int} (hc : rg a b c) (hx : 0 ≤ x.toInt ∧ x.toInt < n.toInt) (hy : 0 ≤ y.toInt ∧ y.toInt < n.toInt) (h : 2 ≤ a ∧ b ≤ 3) : tk c x y n.toNatClampNeg := by
  have cn := rg_cl (x := n) (a := 0) (b := n.toInt) ⟨by omega, by omega⟩ (by decide)
  exact ⟨fun h' => absurd h' (no_eq hc (show rg 1 1 (1 : Int32) from ⟨by decide, by decide⟩) (by omega)), fun _ => ⟨⟨hx.1, by omega⟩, hy.1, by omega⟩, fun h' => absurd h' (no_eq hc (show rg 71 71 (71 : Int32) from ⟨by decide, by decide⟩) (by omega))⟩
theorem tk_r {c x y : Int32} {k : Nat} (hc : rg 71 71 c) (hx : rg 0 39 x) : tk c x y k :=
  ⟨fun h => absurd h (no_eq hc (show rg 1 1 (1 : Int32) from ⟨by decide, by decide⟩) (by decide)), fun h => h.elim (fun h => absurd h (no_eq hc (show rg 2 2 (2 : Int32) from ⟨by decide, by decide⟩) (by decide))) (fun h => absurd h (no_eq hc (show rg 3 3 (3 : Int32) from ⟨by decide, by decide⟩) (by decide))), fun _ => hx⟩
theorem tk_w {c x y : Int32} {k : Nat} {a b : Int} (hc : rg a b c) (h : 4 ≤ a ∧ (b < 71 ∨ 71 < a)) : tk c x y k :=
  ⟨fun h' => absurd h' (no_eq hc (show rg 1 1 (1 : Int32) from ⟨by decide, by decide⟩) (by omega)), fun h' => h'.elim (fun h' => absurd h' (no_eq hc (show rg 2 2 (2 : Int32) from ⟨by decide, by decide⟩) (by omega))) (fun h' => absurd h' (no_eq hc (show rg 3 3 (3 : Int32) from ⟨by decide, by decide⟩) (by omega))), fun h' => absurd h' (no_eq hc (show rg 71 71 (71 : Int32) from ⟨by decide, by decide⟩) (by omega))⟩
def nk (k : Int) (n o n' o' : Int32) : Prop := n.toInt ≤ n'.toInt ∧ n'.toInt - n.toInt + k ≤ 2 * (o'.toInt - o.toInt)
theorem nkm {k : Int} {n o n' o' : Int32} (h : n.toInt ≤ n'.toInt ∧ n'.toInt - n.toInt + k ≤ 2 * (o'.toInt - o.toInt)) : nk k n o n' o' := h
theorem nke {k : Int} {n o n' o' : Int32} (h : nk k n o n' o') : n.toInt ≤ n'.toInt ∧ n'.toInt - n.toInt + k ≤ 2 * (o'.toInt - o.toInt) := h
def nb (n o : Int32) : Prop := n.toInt ≤ 2 * o.toInt
theorem nbm {n o : Int32} (h : n.toInt ≤ 2 * o.toInt) : nb n o := h
theorem nbe {n o : Int32} (h : nb n o) : n.toInt ≤ 2 * o.toInt := h
def ind (w : Int32) : Int := if w.toInt = 0 then 1 else 0
theorem ind_le (w : Int32) : 0 ≤ ind w ∧ ind w ≤ 1 := by unfold ind; split <;> decide
theorem ind_1 {w : Int32} (h : rg 0 0 w) : ind w = 1 := by unfold ind; rw [if_pos (by have := h.1; have := h.2; omega)]
theorem ind_0 {w : Int32} {a b : Int} (h : rg a b w) (h1 : 0 < a ∨ b < 0) : ind w = 0 := by unfold ind; rw [if_neg (by have := h.1; have := h.2; omega)]
def cpx (c d : Nat) (i : Int32) (G S : Nat → Int32) : Prop := ∀ j : Nat, (j : Int) < i.toInt → G (c + j) = S (d + j)
theorem cpx_0 (c d : Nat) (G S : Nat → Int32) : cpx c d 0 G S := by
  intro j h
  have z : (0 : Int32).toInt = 0 := by decide
  omega
theorem cpx_s {c d : Nat} {i i' x y v : Int32} {G G' S : Nat → Int32} {p q : Int} (h : cpx c d i G S) (hi : rg p q i) (eg : G' = upd G x.toNatClampNeg v) (ev : v = S y.toNatClampNeg) (lx : lq x.toInt (i.toInt + (c : Int))) (ly : lq y.toInt (i.toInt + (d : Int))) (li : lq i'.toInt (i.toInt + 1)) (h0 : 0 ≤ p := by decide) : cpx c d i' G' S := by
  have g1 := lqe lx
  have g2 := lqe ly
  have g3 := lqe li
  have hi1 := hi.1
  have c1 := rg_cl (x := x) (a := 0) (b := x.toInt) ⟨by omega, by omega⟩ (by decide)
  have c2 := rg_cl (x := y) (a := 0) (b := y.toInt) ⟨by omega, by omega⟩ (by decide)
  intro j hj
  by_cases g : (j : Int) = i.toInt
  · rw [eg, show c + j = x.toNatClampNeg by omega, pk_us, ev, show d + j = y.toNatClampNeg by omega]
  · rw [eg, pk_un (by omega)]; exact h j (by omega)
theorem cpx_tok {c d b b' e : Nat} {i : Int32} {G S : Nat → Int32} {a : Int} (h : cpx c d i G S) (hi : a ≤ i.toInt) (ht : tokb b S) (h1 : d ≤ b ∧ ((b - d + 240 : Nat) : Int) ≤ a) (hb : b = d + e) (hb' : b' = c + e) : tokb b' G := by
  intro k hk
  have u : ∀ x : Nat, x < 240 → G (b' + x) = S (b + x) := fun x hx => by
    have r := h (e + x) (by omega)
    rw [show c + (e + x) = b' + x by omega, show d + (e + x) = b + x by omega] at r
    exact r
  have t := ht k hk
  rw [u (4 * k) (by omega), show b' + 4 * k + 1 = b' + (4 * k + 1) by omega, u (4 * k + 1) (by omega), show b' + 4 * k + 2 = b' + (4 * k + 2) by omega, u (4 * k + 2) (by omega)]
  exact t
theorem tokb_at {f : Nat → Int32} {k c x y i0 i1 i2 : Int32} {p q : Int} (h : tokb 136 f) (hk : rg p q k) (h0 : 0 ≤ p) (h1 : q < 60) (ec : c = f i0.toNatClampNeg) (ex : x = f i1.toNatClampNeg) (ey : y = f i2.toNatClampNeg) (l0 : lq i0.toInt (4 * k.toInt + 136)) (l1 : lq i1.toInt (4 * k.toInt + 137)) (l2 : lq i2.toInt (4 * k.toInt + 138)) : tk c x y k.toNatClampNeg := by
  have g0 := lqe l0
  have g1 := lqe l1
  have g2 := lqe l2
  have ck := rg_cl hk h0
  have hk1 := hk.1
  have hk2 := hk.2
  have c0 := rg_cl (x := i0) (a := 0) (b := i0.toInt) ⟨by omega, by omega⟩ (by decide)
  have c1 := rg_cl (x := i1) (a := 0) (b := i1.toInt) ⟨by omega, by omega⟩ (by decide)
  have c2 := rg_cl (x := i2) (a := 0) (b := i2.toInt) ⟨by omega, by omega⟩ (by decide)
  have t := h k.toNatClampNeg (by omega)
  rw [ec, ex, ey, show i0.toNatClampNeg = 136 + 4 * k.toNatClampNeg by omega, show i1.toNatClampNeg = 136 + 4 * k.toNatClampNeg + 1 by omega, show i2.toNatClampNeg = 136 + 4 * k.toNatClampNeg + 2 by omega]
  exact t
