/-! readers of SENTENCE, in both -/
theorem sgn40 : sgn 40 := Or.inr (Or.inr (Or.inr (Or.inr (Or.inl rfl))))
theorem sgn41 : sgn 41 := Or.inr (Or.inr (Or.inr (Or.inr (Or.inr rfl))))
theorem sgn60 : sgn 60 := Or.inr (Or.inl rfl)
theorem sgn61 : sgn 61 := Or.inr (Or.inr (Or.inl rfl))
theorem sgn62 : sgn 62 := Or.inr (Or.inr (Or.inr (Or.inl rfl)))
theorem wv_inj : ∀ i, i < 26 → ∀ k, k < 26 → wv i = wv k → i = k := by decide +kernel
theorem isPlain_v : ∀ k, k < 26 → y_X8_isPlain k = if 18 ≤ k then 1 else 0 := by decide +kernel
theorem isMeasure_v : ∀ k, k < 26 → y_X8_isMeasure k = if 22 ≤ k then 1 else 0 := by decide +kernel
theorem isWordG {w : Nat} (hw : w < 26) (kd : Int32) (wd : Int64) : y_X12_isWord (nI w) kd wd = if kd = 2 ∧ wd = wv w then 1 else 0 := by
  rw [y_X12_isWord_s, wordOf_v w hw]; simp only [lt1, cmp0]
  by_cases a : kd = 2 <;> by_cases b : wd = wv w <;> simp [a, b]
theorem isWord_v15 (kd : Int32) (wd : Int64) : y_X12_isWord_15 kd wd = if kd = 2 ∧ wd = wv 15 then 1 else 0 := by
  rw [y_X12_isWord_15_s]; simp only [lt1, cmp0]; rw [show wv 15 = 423 from by decide +kernel]
  by_cases a : kd = 2 <;> by_cases b : wd = 423 <;> simp [a, b]
theorem isWord_v16 (kd : Int32) (wd : Int64) : y_X12_isWord_16 kd wd = if kd = 2 ∧ wd = wv 16 then 1 else 0 := by
  rw [y_X12_isWord_16_s]; simp only [lt1, cmp0]; rw [show wv 16 = 1111 from by decide +kernel]
  by_cases a : kd = 2 <;> by_cases b : wd = 1111 <;> simp [a, b]
theorem isSign_w (x kd' sg : Int32) : y_X12_isSign x kd' sg = if kd' = 4 ∧ sg = x then 1 else 0 := by
  rw [y_X12_isSign_s]; by_cases a : kd' = 4 <;> by_cases b : sg = x <;> simp [a, b]
theorem plain_some {lt wd : Int64} {kd kd' : Int32} (h : KR lt kd wd kd') {k : Nat} (hk : 18 ≤ k) (hk' : k < 26) (c : kd' = 2 ∧ wd = wv k) : y_X8_plainWord lt kd = some k := by
  have key : ∀ (u i m : Nat), i + u = k → u < m → y_X8_plainWord_2 lt kd m (nI i) = some k := by
    intro u
    induction u with
    | zero =>
      intro i m h1 h2
      obtain ⟨m, rfl⟩ : ∃ z, m = z + 1 := ⟨m - 1, by omega⟩
      have e : i = k := by omega
      subst e
      rw [y_X8_plainWord_2_s, if_neg (show ¬ (26 : Int32) ≤ nI i from nI_ge (b := 26) (by omega) (by omega)), nI_clamp (show i < 2 ^ 31 by omega), sees_w h hk', if_pos c, lt1_v, if_neg oz, isPlain_v i hk', if_pos hk, lt1_v, if_pos rfl]
    | succ u ih =>
      intro i m h1 h2
      obtain ⟨m, rfl⟩ : ∃ z, m = z + 1 := ⟨m - 1, by omega⟩
      rw [y_X8_plainWord_2_s, if_neg (show ¬ (26 : Int32) ≤ nI i from nI_ge (b := 26) (by omega) (by omega)), nI_clamp (show i < 2 ^ 31 by omega), sees_w h (show i < 26 by omega), if_neg (fun z => absurd (wv_inj i (by omega) k hk' (z.2.symm.trans c.2)) (by omega)), lt1_v, if_pos rfl, lt1_v, nI_1]
      exact ih (i + 1) m (by omega) (by omega)
  rw [y_X8_plainWord_s]
  exact key k 0 941 (by omega) (by omega)
theorem plain_none {lt wd : Int64} {kd kd' : Int32} (h : KR lt kd wd kd') (hc : ∀ k, 18 ≤ k → k < 26 → ¬ (kd' = 2 ∧ wd = wv k)) : y_X8_plainWord lt kd = none := by
  have key : ∀ (u i m : Nat), i + u = 26 → u < m → y_X8_plainWord_2 lt kd m (nI i) = none := by
    intro u
    induction u with
    | zero =>
      intro i m h1 h2
      obtain ⟨m, rfl⟩ : ∃ z, m = z + 1 := ⟨m - 1, by omega⟩
      rw [y_X8_plainWord_2_s, if_pos (show (26 : Int32) ≤ nI i from nI_le (a := 26) (by omega) (by omega))]
    | succ u ih =>
      intro i m h1 h2
      obtain ⟨m, rfl⟩ : ∃ z, m = z + 1 := ⟨m - 1, by omega⟩
      rw [y_X8_plainWord_2_s, if_neg (show ¬ (26 : Int32) ≤ nI i from nI_ge (b := 26) (by omega) (by omega)), nI_clamp (show i < 2 ^ 31 by omega), sees_w h (show i < 26 by omega)]
      by_cases c : kd' = 2 ∧ wd = wv i
      · have q : i < 18 := Nat.lt_of_not_le (fun z => hc i z (by omega) c)
        rw [if_pos c, lt1_v, if_neg oz, isPlain_v i (by omega), if_neg (show ¬ 18 ≤ i by omega), lt1_v, if_neg zo]
      · rw [if_neg c, lt1_v, if_pos rfl, lt1_v, nI_1]
        exact ih (i + 1) m (by omega) (by omega)
  rw [y_X8_plainWord_s]
  exact key 26 0 941 (by omega) (by omega)
theorem op_sg {n p lm : Nat} (hn : n ≤ 940) (hl : lm ≤ 940) {F G : Nat → Int32} (ha : ∀ j, j < n → F j = G j) {lt : Int64} {bh av kd nm to fr kd' nm' sg : Int32} {wd : Int64} (fa : Int32) {x : Int32} (hx : sgn x) (h : TR n p lt bh av kd nm to fr kd' nm' sg wd) :
    (∃ (p1 : Nat) (l1 : Int64) (b1 a1 k1 m1 t1 f1 q1 n1 s1 : Int32) (w1 : Int64), TR n p1 l1 b1 a1 k1 m1 t1 f1 q1 n1 s1 w1 ∧ kd = x ∧ kd' = 4 ∧ sg = x ∧ y_X6_advance (nI n) 0 lt (nI lm) bh av kd nm F = (l1, b1, a1, k1, m1) ∧ y_X12_go (nI n) (nI lm) to nm' sg wd G = (t1, f1, q1, n1, s1, w1) ∧ y_X6_takeSign x (nI n) 0 fa lt (nI lm) bh av kd nm F = (0, fa, l1, b1, a1, k1, m1)) ∨
    (¬ kd = x ∧ ¬ (kd' = 4 ∧ sg = x) ∧ y_X6_takeSign x (nI n) 0 fa lt (nI lm) bh av kd nm F = (1, fr, 0, bh, av, 0, nm)) := by
  have e0 := h.1
  rcases h.signs x hx with ⟨z1, z2, z3, r, z4, z5, z6, z7⟩ | ⟨z1, z2⟩
  · have L := lex (lt0 := lt) (av0 := av) (kd0 := kd) (nm0 := nm) (nr0 := nm') (sg0 := sg) (wd0 := wd) hn z5 hl ha
    rcases e1 : y_X6_advance (nI n) 0 lt (nI lm) (nI r) av kd nm F with ⟨l1, b1, a1, k1, m1⟩
    rcases e2 : y_X12_go (nI n) (nI lm) (nI r) nm' sg wd G with ⟨t1, f1, q1, n1, s1, w1⟩
    rw [e1, e2] at L
    refine Or.inl ⟨r, l1, b1, a1, k1, m1, t1, f1, q1, n1, s1, w1, L, z1, z2, z3, by rw [z6]; exact e1, by rw [z7]; exact e2, ?_⟩
    rw [y_X6_takeSign_s, y_X6_seesSign_s, if_pos z1, lt1_v, if_neg oz, z6, e1, lt5_t]
  · refine Or.inr ⟨z1, z2, ?_⟩
    rw [y_X6_takeSign_s, y_X6_seesSign_s, if_neg z1, lt1_v, if_pos rfl, fail0, lt4_t, e0]
theorem sgB {g P n lm bh av nm x : Int32} {F : Nat → Int32} (h : ¬ g = 0) (hx : ¬ (0 : Int32) = x) : y_X6_takeSign x n g P 0 lm bh av 0 nm F = (g, P, 0, bh, av, 0, nm) := by
  rw [y_X6_takeSign_s, y_X6_seesSign_s, if_neg hx, lt1_v, if_pos rfl, fail1 h, lt4_t]
theorem op_ifk {n p lm : Nat} (hn : n ≤ 940) (hl : lm ≤ 940) {F G : Nat → Int32} (ha : ∀ j, j < n → F j = G j) {lt : Int64} {bh av kd nm to fr kd' nm' sg : Int32} {wd : Int64} {k : Nat} (hk : k < 26) (h : TR n p lt bh av kd nm to fr kd' nm' sg wd) :
    (∃ (p1 : Nat) (l1 : Int64) (b1 a1 k1 m1 t1 f1 q1 n1 s1 : Int32) (w1 : Int64), TR n p1 l1 b1 a1 k1 m1 t1 f1 q1 n1 s1 w1 ∧ (kd' = 2 ∧ wd = wv k) ∧ y_X6_takeIf (nI n) 0 lt (nI lm) bh av kd nm F k = (1, l1, b1, a1, k1, m1) ∧ y_X12_go (nI n) (nI lm) to nm' sg wd G = (t1, f1, q1, n1, s1, w1)) ∨
    (¬ (kd' = 2 ∧ wd = wv k) ∧ y_X6_takeIf (nI n) 0 lt (nI lm) bh av kd nm F k = (0, lt, bh, av, kd, nm)) := by
  by_cases c : kd' = 2 ∧ wd = wv k
  · have hk2 : kd = 2 := by
      rcases h.kr with ⟨a, -, -⟩ | ⟨-, b⟩
      · exact a
      · exact absurd c.1 b
    obtain ⟨p1, l1, b1, a1, k1, m1, t1, f1, q1, n1, s1, w1, g1, g2, g3, g4, g5, -, -⟩ := op_go hn hl ha h hk2
    exact Or.inl ⟨p1, l1, b1, a1, k1, m1, t1, f1, q1, n1, s1, w1, g3, c, by rw [y_X6_takeIf_s, sees_w h.kr hk, if_pos c, lt1_v, if_neg oz, g4, lt5_t], g5⟩
  · exact Or.inr ⟨c, by rw [y_X6_takeIf_s, sees_w h.kr hk, if_neg c, lt1_v, if_pos rfl]⟩
theorem named_f {n p lm : Nat} (hn : n ≤ 940) (hl : lm ≤ 940) {F G : Nat → Int32} (ha : ∀ j, j < n → F j = G j) {lt : Int64} {bh av kd nm to fr kd' nm' sg : Int32} {wd : Int64} (fa ft pl td : Int32) {x : Nat} {N M : Nat → Int64} (hx : x ≤ 4) (nr : NR 10 x N M) (h : TR n p lt bh av kd nm to fr kd' nm' sg wd) :
    (∃ (p1 : Nat) (l1 : Int64) (b1 a1 k1 m1 t1 f1 q1 n1 s1 : Int32) (w1 : Int64) (k : Nat), TR n p1 l1 b1 a1 k1 m1 t1 f1 q1 n1 s1 w1 ∧ k < x ∧ y_X6_takeFound (y_X5_floorNamed lt (nI x) N) (nI n) 0 fa lt (nI lm) bh av kd nm F = (nI k, 0, fa, l1, b1, a1, k1, m1) ∧ y_X12_readNamed_f (nI x) (nI n) (nI lm) to fr kd' nm' sg ft pl wd td M G = (1, t1, f1, q1, n1, s1, ft, pl, w1, nI k)) ∨
    (∃ g td' : Int32, ¬ g = 0 ∧ y_X6_takeFound (y_X5_floorNamed lt (nI x) N) (nI n) 0 fa lt (nI lm) bh av kd nm F = ((-1), g, fr, 0, bh, av, 0, nm) ∧ y_X12_readNamed_f (nI x) (nI n) (nI lm) to fr kd' nm' sg ft pl wd td M G = (0, to, fr, kd', nm', sg, g, fr, wd, td')) := by
  by_cases c0 : y_X12_isName kd' wd = 0
  · refine Or.inr ⟨1, td, by decide, ?_, ?_⟩
    · rw [found_bad fa h (Or.inl c0), if_pos c0]
    · rw [y_X12_readNamed_f_s, c0, lt1_v, if_pos rfl, bad_v, ite_self, lt2_t]
  · have en := name_w h.kr
    have hk : kd = 2 := name_k (by rw [en]; exact c0)
    rcases h.kr with ⟨-, k2, k3⟩ | ⟨k1, -⟩
    · have qq := find4 k3 hx nr
      rw [fn_v]
      rcases place4 (L := lt) (N := N) hx with e | ⟨k, hk', e⟩
      · refine Or.inr ⟨3, (-1), by decide, ?_, ?_⟩
        · rw [e, found_bad fa h (Or.inr rfl), if_neg c0]
        · rw [y_X12_readNamed_f_s, lt1_v, if_neg c0, ← qq, e, lt1_v, if_pos rfl, bad_v, if_neg (show ¬ kd' = 1 by rw [k2]; decide), lt2_t]
      · obtain ⟨p1, l1, b1, a1, k1, m1, t1, f1, q1, n1, s1, w1, g1, g2, g3, g4, g5⟩ := found_ok hn hl ha fa (nI_m1 (show k ≤ 940 by omega)) c0 h
        refine Or.inl ⟨p1, l1, b1, a1, k1, m1, t1, f1, q1, n1, s1, w1, k, g3, hk', ?_, ?_⟩
        · rw [e]; exact g4
        · rw [y_X12_readNamed_f_s, lt1_v, if_neg c0, ← qq, e, lt1_v, if_neg (nI_m1 (show k ≤ 940 by omega)), g5, lt6_t]
    · exact absurd hk k1
theorem named_j {n p lm : Nat} (hn : n ≤ 940) (hl : lm ≤ 940) {F G : Nat → Int32} (ha : ∀ j, j < n → F j = G j) {lt : Int64} {bh av kd nm to fr kd' nm' sg : Int32} {wd : Int64} (fa ft pl td : Int32) {x : Nat} {N M : Nat → Int64} (hx : x ≤ 10) (nr : NR 0 x N M) (h : TR n p lt bh av kd nm to fr kd' nm' sg wd) :
    (∃ (p1 : Nat) (l1 : Int64) (b1 a1 k1 m1 t1 f1 q1 n1 s1 : Int32) (w1 : Int64) (k : Nat), TR n p1 l1 b1 a1 k1 m1 t1 f1 q1 n1 s1 w1 ∧ k < x ∧ y_X6_takeFound (y_X5_jurorNamed lt (nI x) N) (nI n) 0 fa lt (nI lm) bh av kd nm F = (nI k, 0, fa, l1, b1, a1, k1, m1) ∧ y_X12_readNamed_j (nI x) (nI n) (nI lm) to fr kd' nm' sg ft pl wd td M G = (1, t1, f1, q1, n1, s1, ft, pl, w1, nI k)) ∨
    (∃ g td' : Int32, ¬ g = 0 ∧ y_X6_takeFound (y_X5_jurorNamed lt (nI x) N) (nI n) 0 fa lt (nI lm) bh av kd nm F = ((-1), g, fr, 0, bh, av, 0, nm) ∧ y_X12_readNamed_j (nI x) (nI n) (nI lm) to fr kd' nm' sg ft pl wd td M G = (0, to, fr, kd', nm', sg, g, fr, wd, td')) := by
  by_cases c0 : y_X12_isName kd' wd = 0
  · refine Or.inr ⟨1, td, by decide, ?_, ?_⟩
    · rw [found_bad fa h (Or.inl c0), if_pos c0]
    · rw [y_X12_readNamed_j_s, c0, lt1_v, if_pos rfl, bad_v, ite_self, lt2_t]
  · have en := name_w h.kr
    have hk : kd = 2 := name_k (by rw [en]; exact c0)
    rcases h.kr with ⟨-, k2, k3⟩ | ⟨k1, -⟩
    · have qq := find10 k3 hx nr
      rw [jn_v]
      rcases place10 (L := lt) (N := N) hx with e | ⟨k, hk', e⟩
      · refine Or.inr ⟨3, (-1), by decide, ?_, ?_⟩
        · rw [e, found_bad fa h (Or.inr rfl), if_neg c0]
        · rw [y_X12_readNamed_j_s, lt1_v, if_neg c0, ← qq, e, lt1_v, if_pos rfl, bad_v, if_neg (show ¬ kd' = 1 by rw [k2]; decide), lt2_t]
      · obtain ⟨p1, l1, b1, a1, k1, m1, t1, f1, q1, n1, s1, w1, g1, g2, g3, g4, g5⟩ := found_ok hn hl ha fa (nI_m1 (show k ≤ 940 by omega)) c0 h
        refine Or.inl ⟨p1, l1, b1, a1, k1, m1, t1, f1, q1, n1, s1, w1, k, g3, hk', ?_, ?_⟩
        · rw [e]; exact g4
        · rw [y_X12_readNamed_j_s, lt1_v, if_neg c0, ← qq, e, lt1_v, if_neg (nI_m1 (show k ≤ 940 by omega)), g5, lt6_t]
    · exact absurd hk k1
def PLR (n : Nat) (fa ft pl : Int32) (c : Int32 × Int32 × Int64 × Int32 × Int32 × Int32 × Int32) (r : Int32 × Int32 × Int32 × Int32 × Int32 × Int32 × Int32 × Int32 × Int64 × Int32) : Prop :=
  (∃ (p1 : Nat) (l1 : Int64) (b1 a1 k1 m1 t1 f1 q1 n1 s1 : Int32) (w1 : Int64) (td1 : Int32), TR n p1 l1 b1 a1 k1 m1 t1 f1 q1 n1 s1 w1 ∧ c = (0, fa, l1, b1, a1, k1, m1) ∧ r = (1, t1, f1, q1, n1, s1, ft, pl, w1, td1)) ∨
  (∃ g P : Int32, ¬ g = 0 ∧ (∃ x1 x2 x3 : Int32, c = (g, P, 0, x1, x2, 0, x3)) ∧ ∃ (y0 y1 y2 y3 y4 : Int32) (y5 : Int64) (y6 : Int32), r = (0, y0, y1, y2, y3, y4, g, P, y5, y6))
theorem ring_read {n p lm : Nat} (hn : n ≤ 940) (hl : lm ≤ 940) {F G : Nat → Int32} (ha : ∀ j, j < n → F j = G j) {j f : Nat} (hj : j ≤ 10) (hf : f ≤ 4) {N1 N2 M : Nat → Int64} (nr1 : NR 0 j N1 M) (nr2 : NR 10 f N2 M) {now : Nat → Int32} (w0 : now 0 = nI j) (w9 : now 1 = nI f) {lt : Int64} {bh av kd nm to fr kd' nm' sg : Int32} {wd : Int64} (fa ft pl td : Int32) (h : TR n p lt bh av kd nm to fr kd' nm' sg wd) :
    PLR n fa ft pl (y_X8_readPlain (nI n) 0 fa lt (nI lm) bh av kd nm F (nI j) (nI f) N2 N1 21) (y_X12_readOf (nI 21) (nI n) (nI lm) to fr kd' nm' sg ft pl wd td now M G) := by
  have z0 : (0 : Int32).toNatClampNeg = 0 := by decide
  have z1 : (1 : Int32).toNatClampNeg = 1 := by decide
  rcases named_f hn hl ha fa ft pl td hf nr2 h with ⟨p1, l1, b1, a1, k1, m1, t1, f1, q1, n1, s1, w1, k, g3, hk, e3, e4⟩ | ⟨g, t', hg, e3, e4⟩
  · have km : ¬ nI k = (-1) := nI_m1 (by omega)
    rcases named_j hn hl ha fa ft pl (nI k) hj nr1 g3 with ⟨p2, l2, b2, a2, k2, m2, t2, f2, q2, n2, s2, w2, k', d3, hk', c3, c4⟩ | ⟨g, t', hg, c3, c4⟩
    · have km' : ¬ nI k' = (-1) := nI_m1 (by omega)
      have qc : y_X8_readPlain (nI n) 0 fa lt (nI lm) bh av kd nm F (nI j) (nI f) N2 N1 21 = (0, fa, l2, b2, a2, k2, m2) := by rw [y_X8_readPlain_s, if_pos rfl, lt1_v, e3, lt8_t, if_neg km, lt1_v, c3, lt8_t, if_neg km', if_pos rfl]
      have rr : y_X12_readRing (nI n) (nI lm) to fr kd' nm' sg ft pl wd td now M G = (1, t2, f2, q2, n2, s2, ft, pl, w2, nI k' + 10 * nI k) := by rw [y_X12_readRing_s, z1, w9, lt1_v, e4, lt10_t, if_neg oz, z0, w0, lt1_v, c4, lt10_t, if_neg oz, lt1_v, lt1_v]
      have qr : y_X12_readOf (nI 21) (nI n) (nI lm) to fr kd' nm' sg ft pl wd td now M G = (1, t2, f2, q2, n2, s2, ft, pl, w2, nI k' + 10 * nI k) := by rw [y_X12_readOf_s, rr, lt10_t, if_neg oz, lt1_v]
      exact Or.inl ⟨p2, l2, b2, a2, k2, m2, t2, f2, q2, n2, s2, w2, _, d3, qc, qr⟩
    · have qc : y_X8_readPlain (nI n) 0 fa lt (nI lm) bh av kd nm F (nI j) (nI f) N2 N1 21 = (g, f1, 0, b1, a1, 0, m1) := by rw [y_X8_readPlain_s, if_pos rfl, lt1_v, e3, lt8_t, if_neg km, lt1_v, c3, lt8_t, if_pos rfl]
      have rr : y_X12_readRing (nI n) (nI lm) to fr kd' nm' sg ft pl wd td now M G = (0, t1, f1, q1, n1, s1, g, f1, w1, t') := by rw [y_X12_readRing_s, z1, w9, lt1_v, e4, lt10_t, if_neg oz, z0, w0, lt1_v, c4, lt10_t, if_pos rfl]
      have qr : y_X12_readOf (nI 21) (nI n) (nI lm) to fr kd' nm' sg ft pl wd td now M G = (0, t1, f1, q1, n1, s1, g, f1, w1, t') := by rw [y_X12_readOf_s, rr, lt10_t, if_pos rfl]
      exact Or.inr ⟨g, f1, hg, ⟨_, _, _, qc⟩, _, _, _, _, _, _, _, qr⟩
  · have qc : y_X8_readPlain (nI n) 0 fa lt (nI lm) bh av kd nm F (nI j) (nI f) N2 N1 21 = (g, fr, 0, bh, av, 0, nm) := by rw [y_X8_readPlain_s, if_pos rfl, lt1_v, e3, lt8_t, if_pos rfl, lt1_v, lt1_v, ite_self]
    have rr : y_X12_readRing (nI n) (nI lm) to fr kd' nm' sg ft pl wd td now M G = (0, to, fr, kd', nm', sg, g, fr, wd, t') := by rw [y_X12_readRing_s, z1, w9, lt1_v, e4, lt10_t, if_pos rfl]
    have qr : y_X12_readOf (nI 21) (nI n) (nI lm) to fr kd' nm' sg ft pl wd td now M G = (0, to, fr, kd', nm', sg, g, fr, wd, t') := by rw [y_X12_readOf_s, rr, lt10_t, if_pos rfl]
    exact Or.inr ⟨g, fr, hg, ⟨_, _, _, qc⟩, _, _, _, _, _, _, _, qr⟩
theorem seen_v (kd : Int32) : y_X8_seenSign kd = if kd = 60 then 60 else if kd = 62 then 62 else 61 := by
  rw [y_X8_seenSign_s, y_X6_seesSign_s, y_X6_seesSign_s, lt1_v]
  by_cases a : kd = 60
  · rw [if_pos a, if_pos a, if_neg oz]
  · rw [if_neg a, if_neg a, if_pos rfl, lt1_v]
    by_cases b : kd = 62
    · rw [if_pos b, if_pos b, if_neg oz]
    · rw [if_neg b, if_neg b, if_pos rfl]
theorem comp_at {n lm : Nat} (hn : n ≤ 940) (hl : lm ≤ 940) {F G : Nat → Int32} (ha : ∀ j, j < n → F j = G j) {j f : Nat} {N1 N2 : Nat → Int64} {lt : Int64} {bh av kd nm to fr kd' nm' sg : Int32} {wd : Int64} (fa ft pl td : Int32) {w : Nat} (hw : 22 ≤ w) (hw' : w < 26) {x : Int32} (es : y_X8_seenSign kd = x) (er : y_X12_readCompare (nI w) (nI n) (nI lm) to fr kd' nm' sg ft pl wd td G = y_X12_readCompare_33 (nI w) (nI n) (nI lm) to nm' sg ft pl wd td G) {p1 : Nat} {l1 : Int64} {b1 a1 k1 m1 t1 f1 q1 n1 s1 : Int32} {w1 : Int64} (g3 : TR n p1 l1 b1 a1 k1 m1 t1 f1 q1 n1 s1 w1) (gg : y_X12_go (nI n) (nI lm) to nm' sg wd G = (t1, f1, q1, n1, s1, w1)) (ts : y_X6_takeSign x (nI n) 0 fa lt (nI lm) bh av kd nm F = (0, fa, l1, b1, a1, k1, m1)) :
    PLR n fa ft pl (y_X8_readPlain (nI n) 0 fa lt (nI lm) bh av kd nm F (nI j) (nI f) N2 N1 w) (y_X12_readCompare (nI w) (nI n) (nI lm) to fr kd' nm' sg ft pl wd td G) := by
  have hm : y_X8_isMeasure w = 1 := by rw [isMeasure_v w hw', if_pos hw]
  rcases op_num hn hl ha fa ft pl td 0 999 g3 with ⟨p2, v, l2, b2, a2, k2, m2, t2, f2, q2, n2, s2, w2, -, -, -, -, d3, cc, rr⟩ | ⟨g, hg, cc, rr⟩
  · have qc : y_X8_readPlain (nI n) 0 fa lt (nI lm) bh av kd nm F (nI j) (nI f) N2 N1 w = (0, fa, l2, b2, a2, k2, m2) := by rw [y_X8_readPlain_s, if_neg (show ¬ w = 21 by omega), hm, lt1_v, if_pos rfl, lt1_v, es, ts, lt7_t, cc, lt8_t, if_pos rfl]
    have qr : y_X12_readCompare (nI w) (nI n) (nI lm) to fr kd' nm' sg ft pl wd td G = (1, t2, f2, q2, n2, s2, ft, pl, w2, v) := by rw [er, y_X12_readCompare_33_s, gg, lt6_t, rr, lt10_t, if_neg oz, lt1_v]
    exact Or.inl ⟨p2, l2, b2, a2, k2, m2, t2, f2, q2, n2, s2, w2, _, d3, qc, qr⟩
  · have qc : y_X8_readPlain (nI n) 0 fa lt (nI lm) bh av kd nm F (nI j) (nI f) N2 N1 w = (g, f1, 0, b1, a1, 0, m1) := by rw [y_X8_readPlain_s, if_neg (show ¬ w = 21 by omega), hm, lt1_v, if_pos rfl, lt1_v, es, ts, lt7_t, cc, lt8_t, ite_self]
    have qr : y_X12_readCompare (nI w) (nI n) (nI lm) to fr kd' nm' sg ft pl wd td G = (0, t1, f1, q1, n1, s1, g, f1, w1, td) := by rw [er, y_X12_readCompare_33_s, gg, lt6_t, rr, lt10_t, if_pos rfl]
    exact Or.inr ⟨g, f1, hg, ⟨_, _, _, qc⟩, _, _, _, _, _, _, _, qr⟩
theorem comp_read {n p lm : Nat} (hn : n ≤ 940) (hl : lm ≤ 940) {F G : Nat → Int32} (ha : ∀ j, j < n → F j = G j) {j f : Nat} {N1 N2 : Nat → Int64} {lt : Int64} {bh av kd nm to fr kd' nm' sg : Int32} {wd : Int64} (fa ft pl td : Int32) {w : Nat} (hw : 22 ≤ w) (hw' : w < 26) (h : TR n p lt bh av kd nm to fr kd' nm' sg wd) :
    PLR n fa ft pl (y_X8_readPlain (nI n) 0 fa lt (nI lm) bh av kd nm F (nI j) (nI f) N2 N1 w) (y_X12_readCompare (nI w) (nI n) (nI lm) to fr kd' nm' sg ft pl wd td G) := by
  have hm : y_X8_isMeasure w = 1 := by rw [isMeasure_v w hw', if_pos hw]
  rcases op_sg hn hl ha fa sgn60 h with ⟨p1, l1, b1, a1, k1, m1, t1, f1, q1, n1, s1, w1, g3, c1, c2, c3, ga, gg, ts⟩ | ⟨c1, c2, -⟩
  · exact comp_at hn hl ha fa ft pl td hw hw' (by rw [seen_v, if_pos c1]) (by rw [y_X12_readCompare_s, isSign_w 60, if_pos ⟨c2, c3⟩, lt1_v, if_neg oz]) g3 gg ts
  rcases op_sg hn hl ha fa sgn62 h with ⟨p1, l1, b1, a1, k1, m1, t1, f1, q1, n1, s1, w1, g3, d1, d2, d3, ga, gg, ts⟩ | ⟨d1, d2, -⟩
  · have nz : ¬ (kd' = 4 ∧ sg = 61) := fun z => absurd (d3.symm.trans z.2) (by decide)
    exact comp_at hn hl ha fa ft pl td hw hw' (by rw [seen_v, if_neg c1, if_pos d1]) (by rw [y_X12_readCompare_s, isSign_w 60, if_neg c2, lt1_v, if_pos rfl, isSign_w 61, if_neg nz, lt1_v, if_pos rfl, isSign_w 62, if_pos ⟨d2, d3⟩, lt1_v, if_neg oz]) g3 gg ts
  rcases op_sg hn hl ha fa sgn61 h with ⟨p1, l1, b1, a1, k1, m1, t1, f1, q1, n1, s1, w1, g3, e1, e2, e3, ga, gg, ts⟩ | ⟨e1, e2, ts⟩
  · exact comp_at hn hl ha fa ft pl td hw hw' (by rw [seen_v, if_neg c1, if_neg d1]) (by rw [y_X12_readCompare_s, isSign_w 60, if_neg c2, lt1_v, if_pos rfl, isSign_w 61, if_pos ⟨e2, e3⟩, lt1_v, if_neg oz]) g3 gg ts
  have h1 : ¬ (1 : Int32) = 0 := by decide
  have qc : y_X8_readPlain (nI n) 0 fa lt (nI lm) bh av kd nm F (nI j) (nI f) N2 N1 w = (1, fr, 0, bh, av, 0, nm) := by rw [y_X8_readPlain_s, if_neg (show ¬ w = 21 by omega), hm, lt1_v, if_pos rfl, lt1_v, seen_v, if_neg c1, if_neg d1, ts, lt7_t, num1 h1, lt8_t, ite_self]
  have qr : y_X12_readCompare (nI w) (nI n) (nI lm) to fr kd' nm' sg ft pl wd td G = (0, to, fr, kd', nm', sg, 1, fr, wd, td) := by rw [y_X12_readCompare_s, isSign_w 60, if_neg c2, lt1_v, if_pos rfl, isSign_w 61, if_neg e2, lt1_v, if_pos rfl, isSign_w 62, if_neg d2, lt1_v, if_pos rfl, bad_v, ite_self, lt2_t]
  exact Or.inr ⟨1, fr, h1, ⟨_, _, _, qc⟩, _, _, _, _, _, _, _, qr⟩
def SO (n : Nat) (fa ft pl : Int32) (o : Nat) (c : Int32 × Int32 × Int32 × Int64 × Int32 × Int32 × Int32 × Int32) (r : Int32 × Int32 × Int32 × Int32 × Int32 × Int32 × Int32 × Int32 × Int64 × Int32 × Int32) : Prop :=
  (∃ (p9 o9 : Nat) (l9 : Int64) (b9 a9 k9 m9 t9 f9 q9 n9 s9 : Int32) (v9 : Int64) (td9 : Int32), o ≤ o9 ∧ o9 ≤ 20 ∧ TR n p9 l9 b9 a9 k9 m9 t9 f9 q9 n9 s9 v9 ∧ c = (nI o9, 0, fa, l9, b9, a9, k9, m9) ∧ r = (1, t9, f9, q9, n9, s9, ft, pl, v9, td9, nI o9)) ∨
  (∃ g P : Int32, ¬ g = 0 ∧ (∃ x0 x1 x2 x3 : Int32, c = (x0, g, P, 0, x1, x2, 0, x3)) ∧ ∃ (y0 y1 y2 y3 y4 : Int32) (y5 : Int64) (y6 y7 : Int32), r = (0, y0, y1, y2, y3, y4, g, P, y5, y6, y7))
theorem SO.mono {n : Nat} {fa ft pl : Int32} {o o' : Nat} {c : Int32 × Int32 × Int32 × Int64 × Int32 × Int32 × Int32 × Int32} {r : Int32 × Int32 × Int32 × Int32 × Int32 × Int32 × Int32 × Int32 × Int64 × Int32 × Int32} (h : SO n fa ft pl o c r) (ho : o' ≤ o) : SO n fa ft pl o' c r := by
  rcases h with ⟨p9, o9, l9, b9, a9, k9, m9, t9, f9, q9, n9, s9, v9, td9, u3, u4, u5, qc, qr⟩ | h
  · exact Or.inl ⟨p9, o9, l9, b9, a9, k9, m9, t9, f9, q9, n9, s9, v9, td9, Nat.le_trans ho u3, u4, u5, qc, qr⟩
  · exact Or.inr h
