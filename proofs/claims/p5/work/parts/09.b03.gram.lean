/-! what is seen, in both -/
theorem cmp0 (x y : Int64) : lg_cmp x y = 0 ↔ x = y := ⟨fun h => cmp_eq rfl h, fun h => by
  by_cases c : lg_cmp x y = 0
  · exact c
  · exact absurd h (cmp_nn rfl c)⟩
def wl : List (List Int32) := [[114, 111, 114, 117, 106], [100, 101, 116, 97, 101, 115], [114, 111, 111, 108, 102], [101, 115, 97, 99], [100, 101, 110, 117, 116], [101, 110, 111], [116, 110, 101, 100], [115, 116, 105, 115], [115, 101, 115, 105, 114], [115, 100, 108, 111, 104], [115, 112, 111, 114, 100], [110, 101, 116, 97, 101, 98], [121, 114, 116], [108, 97, 101, 112, 112, 97], [121, 97, 100], [114, 111], [100, 110, 97], [116, 111, 110], [103, 110, 105, 116, 116, 105, 115], [103, 110, 105, 100, 108, 111, 104], [100, 101, 116, 110, 101, 100], [115, 103, 110, 105, 114], [104, 99, 116, 105, 112], [104, 116, 103, 110, 101, 108], [115, 116, 110, 101, 100], [114, 101, 98, 109, 117, 110]]
def wv (k : Nat) : Int64 := encW (wl.getD k [])
theorem wl_ok : ∀ k, k < 26 → (wl.getD k []) ≠ [] ∧ (wl.getD k []).length ≤ 7 ∧ (∀ x ∈ wl.getD k [], ¬ x < 97 ∧ ¬ (122 : Int32) < x) ∧ wdl.getD k 0 = encL (wl.getD k []) := by decide +kernel
theorem wl_wr {k : Nat} (hk : k < 26) : wr (wdl.getD k 0) (wv k) := by
  obtain ⟨a, b, c, d⟩ := wl_ok k hk
  exact ⟨_, ⟨a, b, c⟩, d, rfl⟩
theorem wordOf_v : ∀ k, k < 26 → y_X12_wordOf (nI k) = wv k := by decide +kernel
def KR (lt : Int64) (kd : Int32) (wd : Int64) (kd' : Int32) : Prop := (kd = 2 ∧ kd' = 2 ∧ wr lt wd) ∨ (¬ kd = 2 ∧ ¬ kd' = 2)
theorem sgn_ne {x : Int32} (h : sgn x) : ¬ x = 2 ∧ ¬ x = 3 ∧ ¬ x = 1 ∧ ¬ x = 0 := by
  rcases h with h | h | h | h | h | h <;> subst h <;> decide
theorem TR.kr {n p : Nat} {lt : Int64} {bh av kd nm to fr kd' nm' sg : Int32} {wd : Int64} (h : TR n p lt bh av kd nm to fr kd' nm' sg wd) : KR lt kd wd kd' := by
  obtain ⟨-, ⟨h1, h2, -⟩ | ⟨h1, h2, -⟩ | ⟨a, r, -, -, -, -, -, -, h⟩⟩ := h
  · subst h1; subst h2; exact Or.inr ⟨by decide, by decide⟩
  · subst h1; subst h2; exact Or.inr ⟨by decide, by decide⟩
  · rcases h with ⟨h1, h2, h3⟩ | ⟨h1, h2, -⟩ | ⟨h1, h2, -⟩
    · exact Or.inl ⟨h1, h2, h3⟩
    · subst h1; subst h2; exact Or.inr ⟨by decide, by decide⟩
    · subst h2; exact Or.inr ⟨(sgn_ne h1).1, by decide⟩
theorem sees_v (lt : Int64) (kd : Int32) (k : Nat) : y_X6_sees lt kd k = if kd = 2 ∧ lt = wdl.getD k 0 then 1 else 0 := by
  rw [y_X6_sees_s]
  simp only [lt1, cmp0]
  by_cases a : kd = 2 <;> by_cases b : lt = wdl.getD k 0 <;> simp [a, b]
theorem sees_w {lt wd : Int64} {kd kd' : Int32} (h : KR lt kd wd kd') {k : Nat} (hk : k < 26) : y_X6_sees lt kd k = if kd' = 2 ∧ wd = wv k then 1 else 0 := by
  rw [sees_v]
  rcases h with ⟨a, b, c⟩ | ⟨a, b⟩
  · have e := wr_iff c (wl_wr hk)
    by_cases z : lt = wdl.getD k 0
    · rw [if_pos ⟨a, z⟩, if_pos ⟨b, e.mp z⟩]
    · rw [if_neg (fun y => z y.2), if_neg (fun y => z (e.mpr y.2))]
  · rw [if_neg (fun y => a y.1), if_neg (fun y => b y.1)]
theorem isWord_v0 (kd : Int32) (wd : Int64) : y_X12_isWord_0 kd wd = if kd = 2 ∧ wd = wv 0 then 1 else 0 := by
  rw [y_X12_isWord_0_s]; simp only [lt1, cmp0]; rw [show wv 0 = 5741298 from by decide +kernel]
  by_cases a : kd = 2 <;> by_cases b : wd = 5741298 <;> simp [a, b]
theorem names2 {L W : Int64} (h : wr L W) : ∀ d i n m : Nat, i + d = 26 → d < n → d < m → y_X6_seesName_12 L n (nI i) = y_X12_isName_12 W m (nI i) := by
  intro d
  induction d with
  | zero =>
    intro i n m h1 h2 h3
    obtain ⟨n, rfl⟩ : ∃ k, n = k + 1 := ⟨n - 1, by omega⟩
    obtain ⟨m, rfl⟩ : ∃ k, m = k + 1 := ⟨m - 1, by omega⟩
    rw [y_X6_seesName_12_s, y_X12_isName_12_s, show i = 26 by omega, if_pos (by decide), if_pos (by decide)]
  | succ d ih =>
    intro i n m h1 h2 h3
    obtain ⟨n, rfl⟩ : ∃ k, n = k + 1 := ⟨n - 1, by omega⟩
    obtain ⟨m, rfl⟩ : ∃ k, m = k + 1 := ⟨m - 1, by omega⟩
    rw [y_X6_seesName_12_s, y_X12_isName_12_s, if_neg (show ¬ (26 : Int32) ≤ nI i from nI_ge (b := 26) (by omega) (by omega)), if_neg (by rw [Int32.lt_iff_toInt_lt, nI_toInt (by omega), show (25 : Int32).toInt = 25 from by decide]; omega)]
    simp only [lt1, cmp0, nI_clamp (show i < 2 ^ 31 by omega), nI_1, wordOf_v i (by omega)]
    have e := wr_iff h (wl_wr (k := i) (by omega))
    by_cases z : L = wdl.getD i 0
    · rw [if_pos z, if_pos (e.mp z)]
    · rw [if_neg z, if_neg (fun y => z (e.mpr y))]
      exact ih (i + 1) n m (by omega) (by omega) (by omega)
theorem name_w {lt wd : Int64} {kd kd' : Int32} (h : KR lt kd wd kd') : y_X6_seesName lt kd = y_X12_isName kd' wd := by
  rw [y_X6_seesName_s, y_X12_isName_s]
  rcases h with ⟨a, b, c⟩ | ⟨a, b⟩
  · rw [if_pos a, if_pos b]
    exact names2 c 26 0 941 27 rfl (by omega) (by omega)
  · rw [if_neg a, if_neg b]
theorem name_k {lt : Int64} {kd : Int32} (h : ¬ y_X6_seesName lt kd = 0) : kd = 2 := by
  by_cases c : kd = 2
  · exact c
  · exact absurd (by rw [y_X6_seesName_s, if_neg c]) h
/-- names of one sort, in both -/
def NR (b many : Nat) (N : Nat → Int64) (M : Nat → Int64) : Prop := ∀ j, j < many → wr (N j) (M (b + j))
theorem find10 {L W : Int64} {N M : Nat → Int64} {many : Nat} (h : wr L W) (hm : many ≤ 10) (hN : NR 0 many N M) : y_X5_placeOf_10 (nI many) L N = y_X12_findIn_0 (nI many) W M := by
  have key : ∀ d i n m : Nat, i + d = many → d < n → d < m → y_X5_placeOf_10_3 (nI many) L N n (nI i) = y_X12_findIn_0_3 (nI many) W M m (nI i) := by
    intro d
    induction d with
    | zero =>
      intro i n m h1 h2 h3
      obtain ⟨n, rfl⟩ : ∃ k, n = k + 1 := ⟨n - 1, by omega⟩
      obtain ⟨m, rfl⟩ : ∃ k, m = k + 1 := ⟨m - 1, by omega⟩
      rw [y_X5_placeOf_10_3_s, y_X12_findIn_0_3_s, if_pos (nI_le (by omega) (by omega)), if_pos (nI_le (by omega) (by omega))]
    | succ d ih =>
      intro i n m h1 h2 h3
      obtain ⟨n, rfl⟩ : ∃ k, n = k + 1 := ⟨n - 1, by omega⟩
      obtain ⟨m, rfl⟩ : ∃ k, m = k + 1 := ⟨m - 1, by omega⟩
      rw [y_X5_placeOf_10_3_s, y_X12_findIn_0_3_s, if_neg (nI_ge (by omega) (by omega)), if_neg (nI_ge (by omega) (by omega))]
      have ea : (0 : Int32) + nI i = nI (0 + i) := nI_add 0 i
      simp only [lt1, cmp0, ea, nI_clamp (show i < 2 ^ 31 by omega), nI_clamp (show 0 + i < 2 ^ 31 by omega), nI_1]
      have e := wr_iff (hN i (by omega)) h
      by_cases z : N i = L
      · rw [if_pos z, if_pos (e.mp z)]
      · rw [if_neg z, if_neg (fun y => z (e.mpr y))]
        exact ih (i + 1) n m (by omega) (by omega) (by omega)
  rw [y_X5_placeOf_10_s, y_X12_findIn_0_s]
  exact key many 0 _ _ (by omega) (by omega) (by omega)
theorem find4 {L W : Int64} {N M : Nat → Int64} {many : Nat} (h : wr L W) (hm : many ≤ 4) (hN : NR 10 many N M) : y_X5_placeOf_4 (nI many) L N = y_X12_findIn_10 (nI many) W M := by
  have key : ∀ d i n m : Nat, i + d = many → d < n → d < m → y_X5_placeOf_4_3 (nI many) L N n (nI i) = y_X12_findIn_10_3 (nI many) W M m (nI i) := by
    intro d
    induction d with
    | zero =>
      intro i n m h1 h2 h3
      obtain ⟨n, rfl⟩ : ∃ k, n = k + 1 := ⟨n - 1, by omega⟩
      obtain ⟨m, rfl⟩ : ∃ k, m = k + 1 := ⟨m - 1, by omega⟩
      rw [y_X5_placeOf_4_3_s, y_X12_findIn_10_3_s, if_pos (nI_le (by omega) (by omega)), if_pos (nI_le (by omega) (by omega))]
    | succ d ih =>
      intro i n m h1 h2 h3
      obtain ⟨n, rfl⟩ : ∃ k, n = k + 1 := ⟨n - 1, by omega⟩
      obtain ⟨m, rfl⟩ : ∃ k, m = k + 1 := ⟨m - 1, by omega⟩
      rw [y_X5_placeOf_4_3_s, y_X12_findIn_10_3_s, if_neg (nI_ge (by omega) (by omega)), if_neg (nI_ge (by omega) (by omega))]
      have ea : (10 : Int32) + nI i = nI (10 + i) := nI_add 10 i
      simp only [lt1, cmp0, ea, nI_clamp (show i < 2 ^ 31 by omega), nI_clamp (show 10 + i < 2 ^ 31 by omega), nI_1]
      have e := wr_iff (hN i (by omega)) h
      by_cases z : N i = L
      · rw [if_pos z, if_pos (e.mp z)]
      · rw [if_neg z, if_neg (fun y => z (e.mpr y))]
        exact ih (i + 1) n m (by omega) (by omega) (by omega)
  rw [y_X5_placeOf_4_s, y_X12_findIn_10_s]
  exact key many 0 _ _ (by omega) (by omega) (by omega)
theorem find5 {L W : Int64} {N M : Nat → Int64} {many : Nat} (h : wr L W) (hm : many ≤ 5) (hN : NR 14 many N M) : y_X5_placeOf_5 (nI many) L N = y_X12_findIn_14 (nI many) W M := by
  have key : ∀ d i n m : Nat, i + d = many → d < n → d < m → y_X5_placeOf_5_3 (nI many) L N n (nI i) = y_X12_findIn_14_3 (nI many) W M m (nI i) := by
    intro d
    induction d with
    | zero =>
      intro i n m h1 h2 h3
      obtain ⟨n, rfl⟩ : ∃ k, n = k + 1 := ⟨n - 1, by omega⟩
      obtain ⟨m, rfl⟩ : ∃ k, m = k + 1 := ⟨m - 1, by omega⟩
      rw [y_X5_placeOf_5_3_s, y_X12_findIn_14_3_s, if_pos (nI_le (by omega) (by omega)), if_pos (nI_le (by omega) (by omega))]
    | succ d ih =>
      intro i n m h1 h2 h3
      obtain ⟨n, rfl⟩ : ∃ k, n = k + 1 := ⟨n - 1, by omega⟩
      obtain ⟨m, rfl⟩ : ∃ k, m = k + 1 := ⟨m - 1, by omega⟩
      rw [y_X5_placeOf_5_3_s, y_X12_findIn_14_3_s, if_neg (nI_ge (by omega) (by omega)), if_neg (nI_ge (by omega) (by omega))]
      have ea : (14 : Int32) + nI i = nI (14 + i) := nI_add 14 i
      simp only [lt1, cmp0, ea, nI_clamp (show i < 2 ^ 31 by omega), nI_clamp (show 14 + i < 2 ^ 31 by omega), nI_1]
      have e := wr_iff (hN i (by omega)) h
      by_cases z : N i = L
      · rw [if_pos z, if_pos (e.mp z)]
      · rw [if_neg z, if_neg (fun y => z (e.mpr y))]
        exact ih (i + 1) n m (by omega) (by omega) (by omega)
  rw [y_X5_placeOf_5_s, y_X12_findIn_14_s]
  exact key many 0 _ _ (by omega) (by omega) (by omega)
/-! broken: nothing comes any more -/
theorem isBroken1 {f : Int32} (h : ¬ f = 0) : y_X6_isBroken f = 1 := by rw [y_X6_isBroken_s, if_neg h]
theorem fail1 {f fa av kd k : Int32} {lt : Int64} (h : ¬ f = 0) : y_X6_fail k f fa lt av kd = (f, fa, lt, kd) := by
  rw [y_X6_fail_s]; simp only [lt1, isBroken1 h]; rw [if_neg (by decide)]
theorem fail0 {fa av kd k : Int32} {lt : Int64} : y_X6_fail k 0 fa lt av kd = (k, av, 0, 0) := by
  rw [y_X6_fail_s]; simp only [lt1, isBroken0, if_pos]
theorem adv1 {f n lm bh av kd nm : Int32} {lt : Int64} {F : Nat → Int32} (h : ¬ f = 0) : y_X6_advance n f lt lm bh av kd nm F = (lt, bh, av, kd, nm) := by
  rw [y_X6_advance_s]; simp only [lt1, isBroken1 h]; rw [if_neg (by decide)]
theorem num1 {f fa n lm bh av nm a b : Int32} {F : Nat → Int32} (h : ¬ f = 0) : y_X6_takeNumber a b n f fa 0 lm bh av 0 nm F = (0, f, fa, 0, bh, av, 0, nm) := by
  rw [y_X6_takeNumber_s, if_neg (by decide)]; simp only [lt4, fail1 h]
theorem sign1 {f fa n lm bh av nm : Int32} {F : Nat → Int32} (h : ¬ f = 0) : y_X6_takeSign 59 n f fa 0 lm bh av 0 nm F = (f, fa, 0, bh, av, 0, nm) := by
  rw [y_X6_takeSign_s, show y_X6_seesSign 59 0 = 0 from by decide]; simp only [lt1, lt4, fail1 h, if_pos]
theorem if1 {f n lm bh av nm : Int32} {F : Nat → Int32} {k : Nat} : y_X6_takeIf n f 0 lm bh av 0 nm F k = (0, 0, bh, av, 0, nm) := by
  rw [y_X6_takeIf_s, sees_v, if_neg (fun z => absurd z.1 (by decide))]; simp only [lt1, if_pos]
theorem found1 {f fa n lm bh av nm x : Int32} {F : Nat → Int32} (h : ¬ f = 0) : y_X6_takeFound x n f fa 0 lm bh av 0 nm F = ((-1), f, fa, 0, bh, av, 0, nm) := by
  rw [y_X6_takeFound_s, y_X6_seesName_s, if_neg (by decide)]; simp only [lt1, lt4, fail1 h, if_pos]
theorem new1 {f fa n lm bh av nm x : Int32} {F : Nat → Int32} (h : ¬ f = 0) : y_X6_takeNewName x n f fa 0 lm bh av 0 nm F = (0, f, fa, 0, bh, av, 0, nm) := by
  rw [y_X6_takeNewName_s, y_X6_seesName_s, if_neg (by decide)]; simp only [lt1, lt4, fail1 h, if_pos]
/-! the steps of reading, in both: either both go on, or both stop at the same FAULT -/
theorem bad_v (k kd : Int32) : y_X12_bad k kd = (0, if kd = 1 then 1 else k) := by
  rw [y_X12_bad_s]
  by_cases c : kd = 1
  · rw [if_pos c, if_pos c, y_X12_bad_14_s]
  · rw [if_neg c, if_neg c, y_X12_bad_14_s]
theorem nlt {x y : Int32} : ¬ x < y ↔ y ≤ x := by rw [Int32.lt_iff_toInt_lt, Int32.le_iff_toInt_le]; omega
/-- a kind that is no NUMBER, WORD .. -/
theorem TR.kinds {n p : Nat} {lt : Int64} {bh av kd nm to fr kd' nm' sg : Int32} {wd : Int64} (h : TR n p lt bh av kd nm to fr kd' nm' sg wd) : (kd = 3 ∧ kd' = 3 ∧ nm = nm' ∧ ∃ r : Nat, p < r ∧ r ≤ n ∧ bh = nI r ∧ to = nI r) ∨ (¬ kd = 3 ∧ ¬ kd' = 3) := by
  obtain ⟨-, ⟨h1, h2, -⟩ | ⟨h1, h2, -⟩ | ⟨a, r, h0, -, h1, h2, h3, h4, h⟩⟩ := h
  · subst h1; subst h2; exact Or.inr ⟨by decide, by decide⟩
  · subst h1; subst h2; exact Or.inr ⟨by decide, by decide⟩
  · rcases h with ⟨z1, z2, -⟩ | ⟨z1, z2, -, z3⟩ | ⟨z1, z2, -⟩
    · subst z1; subst z2; exact Or.inr ⟨by decide, by decide⟩
    · exact Or.inl ⟨z1, z2, z3, r, by omega, h2, h3, h4⟩
    · subst z2; exact Or.inr ⟨(sgn_ne z1).2.1, by decide⟩
theorem op_num {n p lm : Nat} (hn : n ≤ 940) (hl : lm ≤ 940) {F G : Nat → Int32} (ha : ∀ j, j < n → F j = G j) {lt : Int64} {bh av kd nm to fr kd' nm' sg : Int32} {wd : Int64} (fa ft pl td a b : Int32) (h : TR n p lt bh av kd nm to fr kd' nm' sg wd) :
    (∃ (p1 : Nat) (v : Int32) (lt1 : Int64) (bh1 av1 kd1 nm1 to1 fr1 kd1' nm1' sg1 : Int32) (wd1 : Int64), p < p1 ∧ p1 ≤ n ∧ a ≤ v ∧ v ≤ b ∧ TR n p1 lt1 bh1 av1 kd1 nm1 to1 fr1 kd1' nm1' sg1 wd1 ∧ y_X6_takeNumber a b (nI n) 0 fa lt (nI lm) bh av kd nm F = (v, 0, fa, lt1, bh1, av1, kd1, nm1) ∧ y_X12_readNumber a b (nI n) (nI lm) to fr kd' nm' sg ft pl wd td G = (1, to1, fr1, kd1', nm1', sg1, ft, pl, wd1, v)) ∨
    (∃ f : Int32, ¬ f = 0 ∧ y_X6_takeNumber a b (nI n) 0 fa lt (nI lm) bh av kd nm F = (0, f, fr, 0, bh, av, 0, nm) ∧ y_X12_readNumber a b (nI n) (nI lm) to fr kd' nm' sg ft pl wd td G = (0, to, fr, kd', nm', sg, f, fr, wd, td)) := by
  have e0 := h.1
  rcases h.kinds with ⟨z1, z2, z3, r, z4, z5, z6, z7⟩ | ⟨z1, z2⟩
  · subst z1; subst z2; subst z3; subst z6; subst z7
    have hin : y_X12_isIn nm a b = if nm < a then 0 else if b < nm then 0 else 1 := y_X12_isIn_s nm a b
    rw [y_X6_takeNumber_s, y_X12_readNumber_s, if_pos rfl, if_pos rfl]
    simp only [lt1, hin]
    by_cases c1 : nm < a
    · refine Or.inr ⟨2, by decide, ?_, ?_⟩
      · rw [if_pos c1, y_X6_takeNumber_31_s]; simp only [lt4, fail0, e0]
      · rw [if_pos c1, if_pos rfl]; simp only [lt2, bad_v]; rw [if_neg (by decide)]
    · by_cases c2 : nm ≤ b
      · have c3 : ¬ b < nm := nlt.mpr c2
        have L := lex (lt0 := lt) (av0 := av) (kd0 := 3) (nm0 := nm) (nr0 := nm) (sg0 := sg) (wd0 := wd) hn z5 hl ha
        rcases e1 : y_X6_advance (nI n) 0 lt (nI lm) (nI r) av 3 nm F with ⟨l1, b1, a1, k1, n1⟩
        rcases e2 : y_X12_go (nI n) (nI lm) (nI r) nm sg wd G with ⟨t1, f1, k2, n2, s2, w2⟩
        rw [e1, e2] at L
        refine Or.inl ⟨r, nm, l1, b1, a1, k1, n1, t1, f1, k2, n2, s2, w2, z4, z5, nlt.mp c1, c2, L, ?_, ?_⟩
        · rw [if_neg c1, if_pos c2]; simp only [lt5, e1]
        · rw [if_neg c1, if_neg c3, if_neg (by decide)]; simp only [lt6, e2]
      · have c3 : b < nm := by rw [Int32.lt_iff_toInt_lt]; rw [Int32.le_iff_toInt_le] at c2; omega
        refine Or.inr ⟨2, by decide, ?_, ?_⟩
        · rw [if_neg c1, if_neg c2, y_X6_takeNumber_31_s]; simp only [lt4, fail0, e0]
        · rw [if_neg c1, if_pos c3, if_pos rfl]; simp only [lt2, bad_v]; rw [if_neg (by decide)]
  · refine Or.inr ⟨1, by decide, ?_, ?_⟩
    · rw [y_X6_takeNumber_s, if_neg z1]; simp only [lt4, fail0, e0]
    · rw [y_X12_readNumber_s, if_neg z2]; simp only [lt2, bad_v, ite_self]
theorem TR.signs {n p : Nat} {lt : Int64} {bh av kd nm to fr kd' nm' sg : Int32} {wd : Int64} (h : TR n p lt bh av kd nm to fr kd' nm' sg wd) (x : Int32) (hx : sgn x) : (kd = x ∧ kd' = 4 ∧ sg = x ∧ ∃ r : Nat, p < r ∧ r ≤ n ∧ bh = nI r ∧ to = nI r) ∨ (¬ kd = x ∧ ¬ (kd' = 4 ∧ sg = x)) := by
  have hx' := sgn_ne hx
  obtain ⟨-, ⟨h1, h2, -⟩ | ⟨h1, h2, -⟩ | ⟨a, r, h0, -, h1, h2, h3, h4, h⟩⟩ := h
  · subst h1; subst h2; exact Or.inr ⟨fun z => hx'.2.2.1 z.symm, fun z => absurd z.1 (by decide)⟩
  · subst h1; subst h2; exact Or.inr ⟨fun z => hx'.2.2.2 z.symm, fun z => absurd z.1 (by decide)⟩
  · rcases h with ⟨z1, z2, -⟩ | ⟨z1, z2, -, z3⟩ | ⟨z1, z2, z3, -⟩
    · subst z1; subst z2; exact Or.inr ⟨fun z => hx'.1 z.symm, fun z => absurd z.1 (by decide)⟩
    · subst z1; subst z2; exact Or.inr ⟨fun z => hx'.2.1 z.symm, fun z => absurd z.1 (by decide)⟩
    · by_cases c : kd = x
      · exact Or.inl ⟨c, z2, z3.trans c, r, by omega, h2, h3, h4⟩
      · exact Or.inr ⟨c, fun z => c (z3.symm.trans z.2)⟩
theorem op_end {n p lm : Nat} (hn : n ≤ 940) (hl : lm ≤ 940) {F G : Nat → Int32} (ha : ∀ j, j < n → F j = G j) {lt : Int64} {bh av kd nm to fr kd' nm' sg : Int32} {wd : Int64} (fa ft pl : Int32) (h : TR n p lt bh av kd nm to fr kd' nm' sg wd) :
    (∃ (p1 : Nat) (lt1 : Int64) (bh1 av1 kd1 nm1 to1 fr1 kd1' nm1' sg1 : Int32) (wd1 : Int64), p < p1 ∧ p1 ≤ n ∧ TR n p1 lt1 bh1 av1 kd1 nm1 to1 fr1 kd1' nm1' sg1 wd1 ∧ y_X6_takeSign 59 (nI n) 0 fa lt (nI lm) bh av kd nm F = (0, fa, lt1, bh1, av1, kd1, nm1) ∧ y_X12_readEnd (nI n) (nI lm) to fr kd' nm' sg ft pl wd G = (1, to1, fr1, kd1', nm1', sg1, ft, pl, wd1)) ∨
    (∃ f : Int32, ¬ f = 0 ∧ y_X6_takeSign 59 (nI n) 0 fa lt (nI lm) bh av kd nm F = (f, fr, 0, bh, av, 0, nm) ∧ y_X12_readEnd (nI n) (nI lm) to fr kd' nm' sg ft pl wd G = (0, to, fr, kd', nm', sg, f, fr, wd)) := by
  have e0 := h.1
  have hs : y_X6_seesSign 59 kd = if kd = 59 then 1 else 0 := y_X6_seesSign_s 59 kd
  have hr : y_X12_isSign 59 kd' sg = if kd' = 4 ∧ sg = 59 then 1 else 0 := by
    rw [y_X12_isSign_s]
    by_cases a : kd' = 4 <;> by_cases b : sg = 59 <;> simp [a, b]
  rw [y_X6_takeSign_s, y_X12_readEnd_s]
  simp only [lt1, hs, hr]
  rcases h.signs 59 (Or.inl rfl) with ⟨z1, z2, z3, r, z4, z5, z6, z7⟩ | ⟨z1, z2⟩
  · subst z1; subst z2; subst z3; subst z6; subst z7
    have L := lex (lt0 := lt) (av0 := av) (kd0 := 59) (nm0 := nm) (nr0 := nm') (sg0 := 59) (wd0 := wd) hn z5 hl ha
    rcases e1 : y_X6_advance (nI n) 0 lt (nI lm) (nI r) av 59 nm F with ⟨l1, b1, a1, k1, n1⟩
    rcases e2 : y_X12_go (nI n) (nI lm) (nI r) nm' 59 wd G with ⟨t1, f1, k2, n2, s2, w2⟩
    rw [e1, e2] at L
    refine Or.inl ⟨r, l1, b1, a1, k1, n1, t1, f1, k2, n2, s2, w2, z4, z5, L, ?_, ?_⟩
    · rw [if_pos rfl, if_neg (by decide)]; simp only [lt5]
    · rw [show (if (4 : Int32) = 4 ∧ (59 : Int32) = 59 then (1 : Int32) else 0) = 1 from if_pos ⟨rfl, rfl⟩, if_neg (by decide)]; simp only [lt6]
  · refine Or.inr ⟨1, by decide, ?_, ?_⟩
    · rw [if_neg z1, if_pos rfl]; simp only [lt4, fail0, e0]
    · rw [if_neg z2, if_pos rfl]; simp only [lt2, bad_v, ite_self]
/-- a WORD at hand: what comes behind it -/
theorem op_go {n p lm : Nat} (hn : n ≤ 940) (hl : lm ≤ 940) {F G : Nat → Int32} (ha : ∀ j, j < n → F j = G j) {lt : Int64} {bh av kd nm to fr kd' nm' sg : Int32} {wd : Int64} (h : TR n p lt bh av kd nm to fr kd' nm' sg wd) (hk : kd = 2) :
    ∃ (p1 : Nat) (lt1 : Int64) (bh1 av1 kd1 nm1 to1 fr1 kd1' nm1' sg1 : Int32) (wd1 : Int64), p < p1 ∧ p1 ≤ n ∧ TR n p1 lt1 bh1 av1 kd1 nm1 to1 fr1 kd1' nm1' sg1 wd1 ∧ y_X6_advance (nI n) 0 lt (nI lm) bh av kd nm F = (lt1, bh1, av1, kd1, nm1) ∧ y_X12_go (nI n) (nI lm) to nm' sg wd G = (to1, fr1, kd1', nm1', sg1, wd1) ∧ kd' = 2 ∧ wr lt wd := by
  obtain ⟨-, ⟨h1, h2, -⟩ | ⟨h1, h2, -⟩ | ⟨a, r, h0, -, h1, h2, h3, h4, h⟩⟩ := h
  · rw [h1] at hk; exact absurd hk (by decide)
  · rw [h1] at hk; exact absurd hk (by decide)
  · rcases h with ⟨z1, z2, z3⟩ | ⟨z1, z2, -, -⟩ | ⟨z1, z2, -, -⟩
    · subst h3; subst h4
      have L := lex (lt0 := lt) (av0 := av) (kd0 := kd) (nm0 := nm) (nr0 := nm') (sg0 := sg) (wd0 := wd) hn h2 hl ha
      rcases e1 : y_X6_advance (nI n) 0 lt (nI lm) (nI r) av kd nm F with ⟨l1, b1, a1, k1, n1⟩
      rcases e2 : y_X12_go (nI n) (nI lm) (nI r) nm' sg wd G with ⟨t1, f1, k2, n2, s2, w2⟩
      rw [e1, e2] at L
      exact ⟨r, l1, b1, a1, k1, n1, t1, f1, k2, n2, s2, w2, by omega, h2, L, rfl, rfl, z2, z3⟩
    · rw [z1] at hk; exact absurd hk (by decide)
    · exact absurd hk (sgn_ne z1).1
/-! names, in both -/
theorem jn_v (a : Int64) (j : Int32) (N : Nat → Int64) : y_X5_jurorNamed a j N = y_X5_placeOf_10 j a N := y_X5_jurorNamed_s a j N
theorem fn_v (a : Int64) (j : Int32) (N : Nat → Int64) : y_X5_floorNamed a j N = y_X5_placeOf_4 j a N := y_X5_floorNamed_s a j N
theorem cn_v (a : Int64) (j : Int32) (N : Nat → Int64) : y_X5_caseNamed a j N = y_X5_placeOf_5 j a N := y_X5_caseNamed_s a j N
theorem told_01 (a : Int64) (j f c : Int32) (N1 N2 N3 : Nat → Int64) : y_X5_isTold a j f c N1 N2 N3 = 0 ∨ y_X5_isTold a j f c N1 N2 N3 = 1 := by
  rw [y_X5_isTold_s]
  simp only [lt1]
  split
  · split
    · split
      · exact Or.inl rfl
      · exact Or.inr rfl
    · exact Or.inr rfl
  · exact Or.inr rfl
/-- what is told so far, by its names -/
def NM (j f c : Nat) (N1 N2 N3 M : Nat → Int64) : Prop := j ≤ 10 ∧ f ≤ 4 ∧ c ≤ 5 ∧ NR 0 j N1 M ∧ NR 10 f N2 M ∧ NR 14 c N3 M
theorem op_new {n p lm : Nat} (hn : n ≤ 940) (hl : lm ≤ 940) {F G : Nat → Int32} (ha : ∀ j, j < n → F j = G j) {lt : Int64} {bh av kd nm to fr kd' nm' sg : Int32} {wd : Int64} (fa ft pl slot : Int32) {j f c : Nat} {N1 N2 N3 M : Nat → Int64} {rd : Nat → Int32} (hN : NM j f c N1 N2 N3 M) (r0 : rd 0 = nI j) (r1 : rd 1 = nI f) (r2 : rd 2 = nI c) (h : TR n p lt bh av kd nm to fr kd' nm' sg wd) :
    (∃ (p1 : Nat) (lt1 : Int64) (bh1 av1 kd1 nm1 to1 fr1 kd1' nm1' sg1 : Int32) (wd1 : Int64), p < p1 ∧ p1 ≤ n ∧ wr lt wd ∧ TR n p1 lt1 bh1 av1 kd1 nm1 to1 fr1 kd1' nm1' sg1 wd1 ∧ y_X5_isTold lt (nI j) (nI f) (nI c) N1 N2 N3 = 0 ∧ y_X6_takeNewName 0 (nI n) 0 fa lt (nI lm) bh av kd nm F = (lt, 0, fa, lt1, bh1, av1, kd1, nm1) ∧ y_X12_readNew slot (nI n) (nI lm) to fr kd' nm' sg ft pl wd rd M G = (1, to1, fr1, kd1', nm1', sg1, ft, pl, wd1, vp_updL M slot.toNatClampNeg wd)) ∨
    (∃ g : Int32, ¬ g = 0 ∧ y_X6_takeNewName (y_X5_isTold lt (nI j) (nI f) (nI c) N1 N2 N3) (nI n) 0 fa lt (nI lm) bh av kd nm F = (0, g, fr, 0, bh, av, 0, nm) ∧ y_X12_readNew slot (nI n) (nI lm) to fr kd' nm' sg ft pl wd rd M G = (0, to, fr, kd', nm', sg, g, fr, wd, M)) := by
  have e0 := h.1
  have ek := h.kr
  have en := name_w ek
  obtain ⟨hj, hf, hc, n1, n2, n3⟩ := hN
  have z0 : (0 : Int32).toNatClampNeg = 0 := by decide
  have z1 : (1 : Int32).toNatClampNeg = 1 := by decide
  have z2 : (2 : Int32).toNatClampNeg = 2 := by decide
  by_cases c0 : y_X12_isName kd' wd = 0
  · refine Or.inr ⟨1, by decide, ?_, ?_⟩
    · rw [y_X6_takeNewName_s, en, c0]; simp only [lt1, lt4, fail0, if_pos, e0]
    · rw [y_X12_readNew_s, c0]; simp only [lt1, lt2, bad_v, ite_self, if_pos]
  · have hk : kd = 2 := name_k (by rw [en]; exact c0)
    obtain ⟨p1, l1, b1, a1, k1, m1, t1, f1, k2, m2, s2, w2, g1, g2, g3, g4, g5, g6, g7⟩ := op_go hn hl ha h hk
    have q1 := find10 g7 hj n1
    have q2 := find4 g7 hf n2
    have q3 := find5 g7 hc n3
    have ht : y_X5_isTold lt (nI j) (nI f) (nI c) N1 N2 N3 = if y_X12_findIn_0 (nI j) wd M = (-1) then (if y_X12_findIn_10 (nI f) wd M = (-1) then (if y_X12_findIn_14 (nI c) wd M = (-1) then 0 else 1) else 1) else 1 := by
      rw [y_X5_isTold_s]
      simp only [lt1, jn_v, fn_v, cn_v, q1, q2, q3]
    have hc' : y_X6_takeNewName 1 (nI n) 0 fa lt (nI lm) bh av kd nm F = (0, 3, fr, 0, bh, av, 0, nm) := by
      rw [y_X6_takeNewName_s, en]; simp only [lt1, if_neg c0, if_neg (show ¬ (1 : Int32) = 0 by decide), lt4, fail0, e0]
    have hr' : y_X12_readNew_81 to fr kd' nm' sg wd M = (0, to, fr, kd', nm', sg, 3, fr, wd, M) := by
      rw [y_X12_readNew_81_s]; simp only [lt2, bad_v]; rw [if_neg (by rw [g6]; decide)]
    have hR : y_X12_readNew slot (nI n) (nI lm) to fr kd' nm' sg ft pl wd rd M G = if y_X12_findIn_0 (nI j) wd M = (-1) then (if y_X12_findIn_10 (nI f) wd M = (-1) then (if y_X12_findIn_14 (nI c) wd M = (-1) then (1, t1, f1, k2, m2, s2, ft, pl, w2, vp_updL M slot.toNatClampNeg wd) else (0, to, fr, kd', nm', sg, 3, fr, wd, M)) else (0, to, fr, kd', nm', sg, 3, fr, wd, M)) else (0, to, fr, kd', nm', sg, 3, fr, wd, M) := by
      rw [y_X12_readNew_s]
      simp only [lt1, if_neg c0, z0, z1, z2, r0, r1, r2, lt6, g5, hr']
    rw [ht, hR]
    by_cases d1 : y_X12_findIn_0 (nI j) wd M = (-1)
    · by_cases d2 : y_X12_findIn_10 (nI f) wd M = (-1)
      · by_cases d3 : y_X12_findIn_14 (nI c) wd M = (-1)
        · simp only [if_pos d1, if_pos d2, if_pos d3]
          refine Or.inl ⟨p1, l1, b1, a1, k1, m1, t1, f1, k2, m2, s2, w2, g1, g2, g7, g3, trivial, ?_, rfl⟩
          rw [y_X6_takeNewName_s, en]; simp only [lt1, if_neg c0, if_pos, lt5, g4]
        · simp only [if_pos d1, if_pos d2, if_neg d3]
          exact Or.inr ⟨3, by decide, hc', rfl⟩
      · simp only [if_pos d1, if_neg d2]
        exact Or.inr ⟨3, by decide, hc', rfl⟩
    · simp only [if_neg d1]
      exact Or.inr ⟨3, by decide, hc', rfl⟩
theorem place4 {L : Int64} {N : Nat → Int64} {many : Nat} (hm : many ≤ 4) : y_X5_placeOf_4 (nI many) L N = (-1) ∨ ∃ k, k < many ∧ y_X5_placeOf_4 (nI many) L N = nI k := by
  have key : ∀ d i n : Nat, i + d = many → d < n → y_X5_placeOf_4_3 (nI many) L N n (nI i) = (-1) ∨ ∃ k, k < many ∧ y_X5_placeOf_4_3 (nI many) L N n (nI i) = nI k := by
    intro d
    induction d with
    | zero =>
      intro i n h1 h2
      obtain ⟨n, rfl⟩ : ∃ k, n = k + 1 := ⟨n - 1, by omega⟩
      rw [y_X5_placeOf_4_3_s, if_pos (nI_le (by omega) (by omega))]
      exact Or.inl rfl
    | succ d ih =>
      intro i n h1 h2
      obtain ⟨n, rfl⟩ : ∃ k, n = k + 1 := ⟨n - 1, by omega⟩
      rw [y_X5_placeOf_4_3_s, if_neg (nI_ge (by omega) (by omega))]
      simp only [lt1, cmp0, nI_clamp (show i < 2 ^ 31 by omega), nI_1]
      by_cases z : N i = L
      · rw [if_pos z]; exact Or.inr ⟨i, by omega, rfl⟩
      · rw [if_neg z]; exact ih (i + 1) n (by omega) (by omega)
  rw [y_X5_placeOf_4_s]
  exact key many 0 _ (by omega) (by omega)
theorem place10 {L : Int64} {N : Nat → Int64} {many : Nat} (hm : many ≤ 10) : y_X5_placeOf_10 (nI many) L N = (-1) ∨ ∃ k, k < many ∧ y_X5_placeOf_10 (nI many) L N = nI k := by
  have key : ∀ d i n : Nat, i + d = many → d < n → y_X5_placeOf_10_3 (nI many) L N n (nI i) = (-1) ∨ ∃ k, k < many ∧ y_X5_placeOf_10_3 (nI many) L N n (nI i) = nI k := by
    intro d
    induction d with
    | zero =>
      intro i n h1 h2
      obtain ⟨n, rfl⟩ : ∃ k, n = k + 1 := ⟨n - 1, by omega⟩
      rw [y_X5_placeOf_10_3_s, if_pos (nI_le (by omega) (by omega))]
      exact Or.inl rfl
    | succ d ih =>
      intro i n h1 h2
      obtain ⟨n, rfl⟩ : ∃ k, n = k + 1 := ⟨n - 1, by omega⟩
      rw [y_X5_placeOf_10_3_s, if_neg (nI_ge (by omega) (by omega))]
      simp only [lt1, cmp0, nI_clamp (show i < 2 ^ 31 by omega), nI_1]
      by_cases z : N i = L
      · rw [if_pos z]; exact Or.inr ⟨i, by omega, rfl⟩
      · rw [if_neg z]; exact ih (i + 1) n (by omega) (by omega)
  rw [y_X5_placeOf_10_s]
  exact key many 0 _ (by omega) (by omega)
theorem nI_m1 {k : Nat} (h : k ≤ 940) : ¬ nI k = (-1) := fun e => by
  have z : (nI k).toInt = (k : Int) := nI_toInt (by omega)
  rw [e, show ((-1) : Int32).toInt = -1 from by decide] at z
  omega
/-- a FLOOR, a JUROR that must be told: 'x' is as what the class has found it -/
theorem found_ok {n p lm : Nat} (hn : n ≤ 940) (hl : lm ≤ 940) {F G : Nat → Int32} (ha : ∀ j, j < n → F j = G j) {lt : Int64} {bh av kd nm to fr kd' nm' sg : Int32} {wd : Int64} (fa : Int32) {x : Int32} (hx : ¬ x = (-1)) (c0 : ¬ y_X12_isName kd' wd = 0) (h : TR n p lt bh av kd nm to fr kd' nm' sg wd) :
    ∃ (p1 : Nat) (lt1 : Int64) (bh1 av1 kd1 nm1 to1 fr1 kd1' nm1' sg1 : Int32) (wd1 : Int64), p < p1 ∧ p1 ≤ n ∧ TR n p1 lt1 bh1 av1 kd1 nm1 to1 fr1 kd1' nm1' sg1 wd1 ∧ y_X6_takeFound x (nI n) 0 fa lt (nI lm) bh av kd nm F = (x, 0, fa, lt1, bh1, av1, kd1, nm1) ∧ y_X12_go (nI n) (nI lm) to nm' sg wd G = (to1, fr1, kd1', nm1', sg1, wd1) := by
  have en := name_w h.kr
  obtain ⟨p1, l1, b1, a1, k1, m1, t1, f1, k2, m2, s2, w2, g1, g2, g3, g4, g5, g6, g7⟩ := op_go hn hl ha h (name_k (by rw [en]; exact c0))
  refine ⟨p1, l1, b1, a1, k1, m1, t1, f1, k2, m2, s2, w2, g1, g2, g3, ?_, g5⟩
  rw [y_X6_takeFound_s, en]; simp only [lt1, if_neg c0, if_neg hx, lt5, g4]
theorem found_bad {n p lm : Nat} {F : Nat → Int32} {lt : Int64} {bh av kd nm to fr kd' nm' sg : Int32} {wd : Int64} (fa : Int32) {x : Int32} (h : TR n p lt bh av kd nm to fr kd' nm' sg wd) (c : y_X12_isName kd' wd = 0 ∨ x = (-1)) :
    y_X6_takeFound x (nI n) 0 fa lt (nI lm) bh av kd nm F = ((-1), (if y_X12_isName kd' wd = 0 then 1 else 3), fr, 0, bh, av, 0, nm) := by
  have e0 := h.1
  have en := name_w h.kr
  rw [y_X6_takeFound_s, en]
  by_cases c0 : y_X12_isName kd' wd = 0
  · simp only [lt1, c0, if_pos, lt4, fail0, e0]
  · have hx := c.resolve_left c0
    simp only [lt1, if_neg c0, if_pos hx, lt4, fail0, e0]
theorem isOne_f_v {n p : Nat} {lt : Int64} {bh av kd nm to fr kd' nm' sg : Int32} {wd : Int64} (ft pl td : Int32) {f : Nat} {N2 M : Nat → Int64} (hf : f ≤ 4) (n2 : NR 10 f N2 M) (h : TR n p lt bh av kd nm to fr kd' nm' sg wd) :
    (∃ k, k < f ∧ ¬ y_X12_isName kd' wd = 0 ∧ y_X5_floorNamed lt (nI f) N2 = nI k ∧ y_X12_isOne_f (nI f) fr kd' ft pl wd td M = (1, ft, pl, nI k)) ∨
    (∃ t, (y_X12_isName kd' wd = 0 ∨ y_X5_floorNamed lt (nI f) N2 = (-1)) ∧ y_X12_isOne_f (nI f) fr kd' ft pl wd td M = (0, (if y_X12_isName kd' wd = 0 then 1 else 3), fr, t)) := by
  have en := name_w h.kr
  rw [y_X12_isOne_f_s]
  by_cases c0 : y_X12_isName kd' wd = 0
  · refine Or.inr ⟨td, Or.inl c0, ?_⟩
    simp only [lt1, c0, if_pos, lt2, bad_v, ite_self]
  · have hk : kd = 2 := name_k (by rw [en]; exact c0)
    have kr := h.kr
    rcases kr with ⟨-, k2, k3⟩ | ⟨k1, -⟩
    · have q := find4 k3 hf n2
      rw [fn_v]
      rcases place4 (L := lt) (N := N2) hf with e | ⟨k, hk', e⟩
      · refine Or.inr ⟨(-1), Or.inr e, ?_⟩
        simp only [lt1, if_neg c0, ← q, e, if_pos, lt2, bad_v]
        rw [if_neg (by rw [k2]; decide)]
      · refine Or.inl ⟨k, hk', c0, e, ?_⟩
        simp only [lt1, if_neg c0, ← q, e, if_neg (nI_m1 (show k ≤ 940 by omega))]
    · exact absurd hk k1
theorem isOne_j_v {n p : Nat} {lt : Int64} {bh av kd nm to fr kd' nm' sg : Int32} {wd : Int64} (ft pl td : Int32) {j : Nat} {N1 M : Nat → Int64} (hj : j ≤ 10) (n1 : NR 0 j N1 M) (h : TR n p lt bh av kd nm to fr kd' nm' sg wd) :
    (∃ k, k < j ∧ ¬ y_X12_isName kd' wd = 0 ∧ y_X5_jurorNamed lt (nI j) N1 = nI k ∧ y_X12_isOne_j (nI j) fr kd' ft pl wd td M = (1, ft, pl, nI k)) ∨
    (∃ t, (y_X12_isName kd' wd = 0 ∨ y_X5_jurorNamed lt (nI j) N1 = (-1)) ∧ y_X12_isOne_j (nI j) fr kd' ft pl wd td M = (0, (if y_X12_isName kd' wd = 0 then 1 else 3), fr, t)) := by
  have en := name_w h.kr
  rw [y_X12_isOne_j_s]
  by_cases c0 : y_X12_isName kd' wd = 0
  · refine Or.inr ⟨td, Or.inl c0, ?_⟩
    simp only [lt1, c0, if_pos, lt2, bad_v, ite_self]
  · have hk : kd = 2 := name_k (by rw [en]; exact c0)
    have kr := h.kr
    rcases kr with ⟨-, k2, k3⟩ | ⟨k1, -⟩
    · have q := find10 k3 hj n1
      rw [jn_v]
      rcases place10 (L := lt) (N := N1) hj with e | ⟨k, hk', e⟩
      · refine Or.inr ⟨(-1), Or.inr e, ?_⟩
        simp only [lt1, if_neg c0, ← q, e, if_pos, lt2, bad_v]
        rw [if_neg (by rw [k2]; decide)]
      · refine Or.inl ⟨k, hk', c0, e, ?_⟩
        simp only [lt1, if_neg c0, ← q, e, if_neg (nI_m1 (show k ≤ 940 by omega))]
    · exact absurd hk k1
/-! LINES of a COURT, in both -/
def DR (j f c : Nat) (one dent seated t1 t2 : Int32) (N1 N2 N3 : Nat → Int64) (pi le ha tu du cf td : Nat → Int32) (rd : Nat → Int32) (M : Nat → Int64) (on : Nat → Int32) : Prop :=
  NM j f c N1 N2 N3 M ∧ (rd 0 = nI j ∧ rd 1 = nI f ∧ rd 2 = nI c ∧ rd 3 = one ∧ rd 4 = dent ∧ rd 35 = seated) ∧ (∀ k, k < j → pi k = rd (5 + k) ∧ le k = rd (15 + k) ∧ ha k = rd (25 + k)) ∧ (∀ k, k < f → tu k = rd (36 + k) ∧ du k = rd (40 + k)) ∧ (∀ k, k < c → cf k = rd (44 + k)) ∧ (∀ k, k < 40 → td k = rd (49 + k)) ∧ on 0 = t1 ∧ on 1 = t2
theorem lt10_v {j : Nat} (h : j ≤ 10) : (nI j < (10 : Int32)) ↔ j < 10 := by
  rw [Int32.lt_iff_toInt_lt, nI_toInt (by omega), show (10 : Int32).toInt = 10 from by decide]; omega
theorem lt4_v {j : Nat} (h : j ≤ 10) : (nI j < (4 : Int32)) ↔ j < 4 := by
  rw [Int32.lt_iff_toInt_lt, nI_toInt (by omega), show (4 : Int32).toInt = 4 from by decide]; omega
theorem lt5_v {j : Nat} (h : j ≤ 10) : (nI j < (5 : Int32)) ↔ j < 5 := by
  rw [Int32.lt_iff_toInt_lt, nI_toInt (by omega), show (5 : Int32).toInt = 5 from by decide]; omega
theorem updL_s {f : Nat → Int64} {k : Nat} {v : Int64} : vp_updL f k v k = v := by simp [vp_updL]
theorem updL_n {f : Nat → Int64} {k j : Nat} {v : Int64} (h : j ≠ k) : vp_updL f k v j = f j := by simp [vp_updL, h]
/-- one name more -/
theorem NM_j {j f c : Nat} {N1 N2 N3 M : Nat → Int64} {L W : Int64} (h : NM j f c N1 N2 N3 M) (hj : j < 10) (w : wr L W) : NM (j + 1) f c (vp_updL N1 j L) N2 N3 (vp_updL M j W) := by
  obtain ⟨h1, h2, h3, n1, n2, n3⟩ := h
  refine ⟨by omega, h2, h3, fun k hk => ?_, fun k hk => ?_, fun k hk => ?_⟩
  · by_cases e : k = j
    · subst e; rw [updL_s, Nat.zero_add, updL_s]; exact w
    · rw [updL_n e, updL_n (by omega)]; exact n1 k (by omega)
  · rw [updL_n (by omega)]; exact n2 k hk
  · rw [updL_n (by omega)]; exact n3 k hk
theorem NM_f {j f c : Nat} {N1 N2 N3 M : Nat → Int64} {L W : Int64} (h : NM j f c N1 N2 N3 M) (hf : f < 4) (w : wr L W) : NM j (f + 1) c N1 (vp_updL N2 f L) N3 (vp_updL M (10 + f) W) := by
  obtain ⟨h1, h2, h3, n1, n2, n3⟩ := h
  refine ⟨h1, by omega, h3, fun k hk => ?_, fun k hk => ?_, fun k hk => ?_⟩
  · rw [updL_n (by omega)]; exact n1 k hk
  · by_cases e : k = f
    · subst e; rw [updL_s, updL_s]; exact w
    · rw [updL_n e, updL_n (by omega)]; exact n2 k (by omega)
  · rw [updL_n (by omega)]; exact n3 k hk
theorem NM_c {j f c : Nat} {N1 N2 N3 M : Nat → Int64} {L W : Int64} (h : NM j f c N1 N2 N3 M) (hc : c < 5) (w : wr L W) : NM j f (c + 1) N1 N2 (vp_updL N3 c L) (vp_updL M (14 + c) W) := by
  obtain ⟨h1, h2, h3, n1, n2, n3⟩ := h
  refine ⟨h1, h2, by omega, fun k hk => ?_, fun k hk => ?_, fun k hk => ?_⟩
  · rw [updL_n (by omega)]; exact n1 k hk
  · rw [updL_n (by omega)]; exact n2 k hk
  · by_cases e : k = c
    · subst e; rw [updL_s, updL_s]; exact w
    · rw [updL_n e, updL_n (by omega)]; exact n3 k (by omega)
