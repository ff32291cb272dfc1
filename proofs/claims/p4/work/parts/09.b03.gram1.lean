/-! what is seen, in both -/
theorem cmp0 (x y : Int64) : lg_cmp x y = 0 ↔ x = y := ⟨fun h => cmp_eq rfl h, fun h => by
  by_cases c : lg_cmp x y = 0
  · exact c
  · exact absurd h (cmp_nn rfl c)⟩
def wl : List (List Int32) := [[114, 111, 114, 117, 106], [100, 101, 116, 97, 101, 115], [114, 111, 111, 108, 102], [101, 115, 97, 99], [100, 101, 110, 117, 116], [101, 110, 111], [116, 110, 101, 100], [115, 116, 105, 115], [115, 101, 115, 105, 114], [115, 100, 108, 111, 104], [115, 112, 111, 114, 100], [110, 101, 116, 97, 101, 98], [121, 114, 116], [108, 97, 101, 112, 112, 97], [121, 97, 100], [114, 111], [100, 110, 97], [116, 111, 110], [103, 110, 105, 116, 116, 105, 115], [103, 110, 105, 100, 108, 111, 104], [100, 101, 116, 110, 101, 100], [115, 103, 110, 105, 114], [104, 99, 116, 105, 112], [104, 116, 103, 110, 101, 108], [115, 116, 110, 101, 100], [114, 101, 98, 109, 117, 110]]
def wv (k : Nat) : Int64 := encW (wl.getD k [])
theorem wl_ok : ∀ k, k < 26 → (wl.getD k []) ≠ [] ∧ (wl.getD k []).length ≤ 7 ∧ (∀ x ∈ wl.getD k [], ¬ x < 97 ∧ ¬ (122 : Int32) < x) ∧ wdl.getD k 0 = encL (wl.getD k []) := by decide +kernel
theorem wl_wr {k : Nat} (hk : k < 26) : wr (wdl.getD k 0) (wv k) := by
  obtain ⟨a, b, c, d⟩ := wl_ok k hk
  exact ⟨_, ⟨a, b, c⟩, d, rfl⟩
theorem wordOf_v : ∀ k, k < 26 → y_X12_wordOf (nI k) = wv k := by decide +kernel
def KR (lt : Int64) (kd : Int32) (wd : Int64) (kd' : Int32) : Prop := (kd = 2 ∧ kd' = 2 ∧ wr lt wd) ∨ (¬ kd = 2 ∧ ¬ kd' = 2)
theorem sgn_ne {x : Int32} (h : sgn x) : ¬ x = 2 ∧ ¬ x = 3 ∧ ¬ x = 1 ∧ ¬ x = 0 := by
  rcases h with h | h | h | h | h | h <;> subst h <;> decide
theorem TR.kr {n p : Nat} {lt : Int64} {bh av kd nm to fr kd' nm' sg : Int32} {wd : Int64} (h : TR n p lt bh av kd nm to fr kd' nm' sg wd) : KR lt kd wd kd' := by
  obtain ⟨-, ⟨h1, h2, -⟩ | ⟨h1, h2, -⟩ | ⟨a, r, -, -, -, -, -, -, h⟩⟩ := h
  · subst h1; subst h2; exact Or.inr ⟨by decide, by decide⟩
  · subst h1; subst h2; exact Or.inr ⟨by decide, by decide⟩
  · rcases h with ⟨h1, h2, h3⟩ | ⟨h1, h2, -⟩ | ⟨h1, h2, -⟩
    · exact Or.inl ⟨h1, h2, h3⟩
    · subst h1; subst h2; exact Or.inr ⟨by decide, by decide⟩
    · subst h2; exact Or.inr ⟨(sgn_ne h1).1, by decide⟩
theorem sees_v (lt : Int64) (kd : Int32) (k : Nat) : y_X6_sees lt kd k = if kd = 2 ∧ lt = wdl.getD k 0 then 1 else 0 := by
  rw [y_X6_sees_s]
  simp only [lt1, cmp0]
  by_cases a : kd = 2 <;> by_cases b : lt = wdl.getD k 0 <;> simp [a, b]
theorem sees_w {lt wd : Int64} {kd kd' : Int32} (h : KR lt kd wd kd') {k : Nat} (hk : k < 26) : y_X6_sees lt kd k = if kd' = 2 ∧ wd = wv k then 1 else 0 := by
  rw [sees_v]
  rcases h with ⟨a, b, c⟩ | ⟨a, b⟩
  · have e := wr_iff c (wl_wr hk)
    by_cases z : lt = wdl.getD k 0
    · rw [if_pos ⟨a, z⟩, if_pos ⟨b, e.mp z⟩]
    · rw [if_neg (fun y => z y.2), if_neg (fun y => z (e.mpr y.2))]
  · rw [if_neg (fun y => a y.1), if_neg (fun y => b y.1)]
theorem isWord_v0 (kd : Int32) (wd : Int64) : y_X12_isWord_0 kd wd = if kd = 2 ∧ wd = wv 0 then 1 else 0 := by
  rw [y_X12_isWord_0_s]; simp only [lt1, cmp0]; rw [show wv 0 = 5741298 from by decide +kernel]
  by_cases a : kd = 2 <;> by_cases b : wd = 5741298 <;> simp [a, b]
theorem names2 {L W : Int64} (h : wr L W) : ∀ d i n m : Nat, i + d = 26 → d < n → d < m → y_X6_seesName_12 L n (nI i) = y_X12_isName_12 W m (nI i) := by
  intro d
  induction d with
  | zero =>
    intro i n m h1 h2 h3
    obtain ⟨n, rfl⟩ : ∃ k, n = k + 1 := ⟨n - 1, by omega⟩
    obtain ⟨m, rfl⟩ : ∃ k, m = k + 1 := ⟨m - 1, by omega⟩
    rw [y_X6_seesName_12_s, y_X12_isName_12_s, show i = 26 by omega, if_pos (by decide), if_pos (by decide)]
  | succ d ih =>
    intro i n m h1 h2 h3
    obtain ⟨n, rfl⟩ : ∃ k, n = k + 1 := ⟨n - 1, by omega⟩
    obtain ⟨m, rfl⟩ : ∃ k, m = k + 1 := ⟨m - 1, by omega⟩
    rw [y_X6_seesName_12_s, y_X12_isName_12_s, if_neg (nI_ge (a := i) (b := 26) (by omega) (by omega)), if_neg (by rw [Int32.lt_iff_toInt_lt, nI_toInt (by omega), show (25 : Int32).toInt = 25 from by decide]; omega)]
    simp only [lt1, cmp0, nI_clamp (show i < 2 ^ 31 by omega), nI_1, wordOf_v i (by omega)]
    have e := wr_iff h (wl_wr (k := i) (by omega))
    by_cases z : L = wdl.getD i 0
    · rw [if_pos z, if_pos (e.mp z)]
    · rw [if_neg z, if_neg (fun y => z (e.mpr y))]
      exact ih (i + 1) n m (by omega) (by omega) (by omega)
theorem name_w {lt wd : Int64} {kd kd' : Int32} (h : KR lt kd wd kd') : y_X6_seesName lt kd = y_X12_isName kd' wd := by
  rw [y_X6_seesName_s, y_X12_isName_s]
  rcases h with ⟨a, b, c⟩ | ⟨a, b⟩
  · rw [if_pos a, if_pos b]
    exact names2 c 26 0 941 27 rfl (by omega) (by omega)
  · rw [if_neg a, if_neg b]
theorem name_k {lt : Int64} {kd : Int32} (h : ¬ y_X6_seesName lt kd = 0) : kd = 2 := by
  by_cases c : kd = 2
  · exact c
  · exact absurd (by rw [y_X6_seesName_s, if_neg c]) h
/-- names of one sort, in both -/
def NR (b many : Nat) (N : Nat → Int64) (M : Nat → Int64) : Prop := ∀ j, j < many → wr (N j) (M (b + j))
theorem find10 {L W : Int64} {N M : Nat → Int64} {many : Nat} (h : wr L W) (hm : many ≤ 10) (hN : NR 0 many N M) : y_X5_placeOf_10 (nI many) L N = y_X12_findIn_0 (nI many) W M := by
  have key : ∀ d i n m : Nat, i + d = many → d < n → d < m → y_X5_placeOf_10_3 (nI many) L N n (nI i) = y_X12_findIn_0_3 (nI many) W M m (nI i) := by
    intro d
    induction d with
    | zero =>
      intro i n m h1 h2 h3
      obtain ⟨n, rfl⟩ : ∃ k, n = k + 1 := ⟨n - 1, by omega⟩
      obtain ⟨m, rfl⟩ : ∃ k, m = k + 1 := ⟨m - 1, by omega⟩
      rw [y_X5_placeOf_10_3_s, y_X12_findIn_0_3_s, if_pos (nI_le (by omega) (by omega)), if_pos (nI_le (by omega) (by omega))]
    | succ d ih =>
      intro i n m h1 h2 h3
      obtain ⟨n, rfl⟩ : ∃ k, n = k + 1 := ⟨n - 1, by omega⟩
      obtain ⟨m, rfl⟩ : ∃ k, m = k + 1 := ⟨m - 1, by omega⟩
      rw [y_X5_placeOf_10_3_s, y_X12_findIn_0_3_s, if_neg (nI_ge (by omega) (by omega)), if_neg (nI_ge (by omega) (by omega))]
      have ea : (0 : Int32) + nI i = nI (0 + i) := nI_add 0 i
      simp only [lt1, cmp0, ea, nI_clamp (show i < 2 ^ 31 by omega), nI_clamp (show 0 + i < 2 ^ 31 by omega), nI_1]
      have e := wr_iff (hN i (by omega)) h
      by_cases z : N i = L
      · rw [if_pos z, if_pos (e.mp z)]
      · rw [if_neg z, if_neg (fun y => z (e.mpr y))]
        exact ih (i + 1) n m (by omega) (by omega) (by omega)
  rw [y_X5_placeOf_10_s, y_X12_findIn_0_s]
  exact key many 0 _ _ (by omega) (by omega) (by omega)
theorem find4 {L W : Int64} {N M : Nat → Int64} {many : Nat} (h : wr L W) (hm : many ≤ 4) (hN : NR 10 many N M) : y_X5_placeOf_4 (nI many) L N = y_X12_findIn_10 (nI many) W M := by
  have key : ∀ d i n m : Nat, i + d = many → d < n → d < m → y_X5_placeOf_4_3 (nI many) L N n (nI i) = y_X12_findIn_10_3 (nI many) W M m (nI i) := by
    intro d
    induction d with
    | zero =>
      intro i n m h1 h2 h3
      obtain ⟨n, rfl⟩ : ∃ k, n = k + 1 := ⟨n - 1, by omega⟩
      obtain ⟨m, rfl⟩ : ∃ k, m = k + 1 := ⟨m - 1, by omega⟩
      rw [y_X5_placeOf_4_3_s, y_X12_findIn_10_3_s, if_pos (nI_le (by omega) (by omega)), if_pos (nI_le (by omega) (by omega))]
    | succ d ih =>
      intro i n m h1 h2 h3
      obtain ⟨n, rfl⟩ : ∃ k, n = k + 1 := ⟨n - 1, by omega⟩
      obtain ⟨m, rfl⟩ : ∃ k, m = k + 1 := ⟨m - 1, by omega⟩
      rw [y_X5_placeOf_4_3_s, y_X12_findIn_10_3_s, if_neg (nI_ge (by omega) (by omega)), if_neg (nI_ge (by omega) (by omega))]
      have ea : (10 : Int32) + nI i = nI (10 + i) := nI_add 10 i
      simp only [lt1, cmp0, ea, nI_clamp (show i < 2 ^ 31 by omega), nI_clamp (show 10 + i < 2 ^ 31 by omega), nI_1]
      have e := wr_iff (hN i (by omega)) h
      by_cases z : N i = L
      · rw [if_pos z, if_pos (e.mp z)]
      · rw [if_neg z, if_neg (fun y => z (e.mpr y))]
        exact ih (i + 1) n m (by omega) (by omega) (by omega)
  rw [y_X5_placeOf_4_s, y_X12_findIn_10_s]
  exact key many 0 _ _ (by omega) (by omega) (by omega)
theorem find5 {L W : Int64} {N M : Nat → Int64} {many : Nat} (h : wr L W) (hm : many ≤ 5) (hN : NR 14 many N M) : y_X5_placeOf_5 (nI many) L N = y_X12_findIn_14 (nI many) W M := by
  have key : ∀ d i n m : Nat, i + d = many → d < n → d < m → y_X5_placeOf_5_3 (nI many) L N n (nI i) = y_X12_findIn_14_3 (nI many) W M m (nI i) := by
    intro d
    induction d with
    | zero =>
      intro i n m h1 h2 h3
      obtain ⟨n, rfl⟩ : ∃ k, n = k + 1 := ⟨n - 1, by omega⟩
      obtain ⟨m, rfl⟩ : ∃ k, m = k + 1 := ⟨m - 1, by omega⟩
      rw [y_X5_placeOf_5_3_s, y_X12_findIn_14_3_s, if_pos (nI_le (by omega) (by omega)), if_pos (nI_le (by omega) (by omega))]
    | succ d ih =>
      intro i n m h1 h2 h3
      obtain ⟨n, rfl⟩ : ∃ k, n = k + 1 := ⟨n - 1, by omega⟩
      obtain ⟨m, rfl⟩ : ∃ k, m = k + 1 := ⟨m - 1, by omega⟩
      rw [y_X5_placeOf_5_3_s, y_X12_findIn_14_3_s, if_neg (nI_ge (by omega) (by omega)), if_neg (nI_ge (by omega) (by omega))]
      have ea : (14 : Int32) + nI i = nI (14 + i) := nI_add 14 i
      simp only [lt1, cmp0, ea, nI_clamp (show i < 2 ^ 31 by omega), nI_clamp (show 14 + i < 2 ^ 31 by omega), nI_1]
      have e := wr_iff (hN i (by omega)) h
      by_cases z : N i = L
      · rw [if_pos z, if_pos (e.mp z)]
      · rw [if_neg z, if_neg (fun y => z (e.mpr y))]
        exact ih (i + 1) n m (by omega) (by omega) (by omega)
  rw [y_X5_placeOf_5_s, y_X12_findIn_14_s]
  exact key many 0 _ _ (by omega) (by omega) (by omega)
/-! broken: nothing comes any more -/
theorem isBroken1 {f : Int32} (h : ¬ f = 0) : y_X6_isBroken f = 1 := by rw [y_X6_isBroken_s, if_neg h]
theorem fail1 {f fa av kd k : Int32} {lt : Int64} (h : ¬ f = 0) : y_X6_fail k f fa lt av kd = (f, fa, lt, kd) := by
  rw [y_X6_fail_s]; simp only [lt1, isBroken1 h]; rw [if_neg (by decide)]
theorem fail0 {fa av kd k : Int32} {lt : Int64} : y_X6_fail k 0 fa lt av kd = (k, av, 0, 0) := by
  rw [y_X6_fail_s]; simp only [lt1, isBroken0, if_pos]
theorem adv1 {f n lm bh av kd nm : Int32} {lt : Int64} {F : Nat → Int32} (h : ¬ f = 0) : y_X6_advance n f lt lm bh av kd nm F = (lt, bh, av, kd, nm) := by
  rw [y_X6_advance_s]; simp only [lt1, isBroken1 h]; rw [if_neg (by decide)]
theorem num1 {f fa n lm bh av nm a b : Int32} {F : Nat → Int32} (h : ¬ f = 0) : y_X6_takeNumber a b n f fa 0 lm bh av 0 nm F = (0, f, fa, 0, bh, av, 0, nm) := by
  rw [y_X6_takeNumber_s, if_neg (by decide)]; simp only [lt4, fail1 h]
theorem sign1 {f fa n lm bh av nm : Int32} {F : Nat → Int32} (h : ¬ f = 0) : y_X6_takeSign 59 n f fa 0 lm bh av 0 nm F = (f, fa, 0, bh, av, 0, nm) := by
  rw [y_X6_takeSign_s, show y_X6_seesSign 59 0 = 0 from by decide]; simp only [lt1, lt4, fail1 h, if_pos]
theorem if1 {f n lm bh av nm : Int32} {F : Nat → Int32} {k : Nat} : y_X6_takeIf n f 0 lm bh av 0 nm F k = (0, 0, bh, av, 0, nm) := by
  rw [y_X6_takeIf_s, sees_v, if_neg (fun z => absurd z.1 (by decide))]; simp only [lt1, if_pos]
theorem found1 {f fa n lm bh av nm x : Int32} {F : Nat → Int32} (h : ¬ f = 0) : y_X6_takeFound x n f fa 0 lm bh av 0 nm F = ((-1), f, fa, 0, bh, av, 0, nm) := by
  rw [y_X6_takeFound_s, y_X6_seesName_s, if_neg (by decide)]; simp only [lt1, lt4, fail1 h, if_pos]
theorem new1 {f fa n lm bh av nm x : Int32} {F : Nat → Int32} (h : ¬ f = 0) : y_X6_takeNewName x n f fa 0 lm bh av 0 nm F = (0, f, fa, 0, bh, av, 0, nm) := by
  rw [y_X6_takeNewName_s, y_X6_seesName_s, if_neg (by decide)]; simp only [lt1, lt4, fail1 h, if_pos]
