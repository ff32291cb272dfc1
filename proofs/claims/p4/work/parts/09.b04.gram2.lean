/-! the steps of reading, in both: either both go on, or both stop at the same FAULT -/
theorem bad_v (k kd : Int32) : y_X12_bad k kd = (0, if kd = 1 then 1 else k) := by
  rw [y_X12_bad_s]
  by_cases c : kd = 1
  · rw [if_pos c, if_pos c, y_X12_bad_14_s]
  · rw [if_neg c, if_neg c, y_X12_bad_14_s]
theorem nlt {x y : Int32} : ¬ x < y ↔ y ≤ x := by rw [Int32.lt_iff_toInt_lt, Int32.le_iff_toInt_le]; omega
/-- a kind that is no NUMBER, WORD .. -/
theorem TR.kinds {n p : Nat} {lt : Int64} {bh av kd nm to fr kd' nm' sg : Int32} {wd : Int64} (h : TR n p lt bh av kd nm to fr kd' nm' sg wd) : (kd = 3 ∧ kd' = 3 ∧ nm = nm' ∧ ∃ r : Nat, p < r ∧ r ≤ n ∧ bh = nI r ∧ to = nI r) ∨ (¬ kd = 3 ∧ ¬ kd' = 3) := by
  obtain ⟨-, ⟨h1, h2, -⟩ | ⟨h1, h2, -⟩ | ⟨a, r, h0, -, h1, h2, h3, h4, h⟩⟩ := h
  · subst h1; subst h2; exact Or.inr ⟨by decide, by decide⟩
  · subst h1; subst h2; exact Or.inr ⟨by decide, by decide⟩
  · rcases h with ⟨z1, z2, -⟩ | ⟨z1, z2, -, z3⟩ | ⟨z1, z2, -⟩
    · subst z1; subst z2; exact Or.inr ⟨by decide, by decide⟩
    · exact Or.inl ⟨z1, z2, z3, r, by omega, h2, h3, h4⟩
    · subst z2; exact Or.inr ⟨(sgn_ne z1).2.1, by decide⟩
theorem op_num {n p lm : Nat} (hn : n ≤ 940) (hl : lm ≤ 940) {F G : Nat → Int32} (ha : ∀ j, j < n → F j = G j) {lt : Int64} {bh av kd nm to fr kd' nm' sg : Int32} {wd : Int64} (fa ft pl td a b : Int32) (h : TR n p lt bh av kd nm to fr kd' nm' sg wd) :
    (∃ (p1 : Nat) (v : Int32) (lt1 : Int64) (bh1 av1 kd1 nm1 to1 fr1 kd1' nm1' sg1 : Int32) (wd1 : Int64), p < p1 ∧ p1 ≤ n ∧ a ≤ v ∧ v ≤ b ∧ TR n p1 lt1 bh1 av1 kd1 nm1 to1 fr1 kd1' nm1' sg1 wd1 ∧ y_X6_takeNumber a b (nI n) 0 fa lt (nI lm) bh av kd nm F = (v, 0, fa, lt1, bh1, av1, kd1, nm1) ∧ y_X12_readNumber a b (nI n) (nI lm) to fr kd' nm' sg ft pl wd td G = (1, to1, fr1, kd1', nm1', sg1, ft, pl, wd1, v)) ∨
    (∃ f : Int32, ¬ f = 0 ∧ y_X6_takeNumber a b (nI n) 0 fa lt (nI lm) bh av kd nm F = (0, f, fr, 0, bh, av, 0, nm) ∧ y_X12_readNumber a b (nI n) (nI lm) to fr kd' nm' sg ft pl wd td G = (0, to, fr, kd', nm', sg, f, fr, wd, td)) := by
  have e0 := h.1
  rcases h.kinds with ⟨z1, z2, z3, r, z4, z5, z6, z7⟩ | ⟨z1, z2⟩
  · subst z1; subst z2; subst z3; subst z6; subst z7
    have hin : y_X12_isIn nm a b = if nm < a then 0 else if b < nm then 0 else 1 := y_X12_isIn_s nm a b
    rw [y_X6_takeNumber_s, y_X12_readNumber_s, if_pos rfl, if_pos rfl]
    simp only [lt1, hin]
    by_cases c1 : nm < a
    · refine Or.inr ⟨2, by decide, ?_, ?_⟩
      · rw [if_pos c1, y_X6_takeNumber_31_s]; simp only [lt4, fail0, e0]
      · rw [if_pos c1, if_pos rfl]; simp only [lt2, bad_v]; rw [if_neg (by decide)]
    · by_cases c2 : nm ≤ b
      · have c3 : ¬ b < nm := nlt.mpr c2
        have L := lex (lt0 := lt) (av0 := av) (kd0 := 3) (nm0 := nm) (nr0 := nm) (sg0 := sg) (wd0 := wd) hn z5 hl ha
        rcases e1 : y_X6_advance (nI n) 0 lt (nI lm) (nI r) av 3 nm F with ⟨l1, b1, a1, k1, n1⟩
        rcases e2 : y_X12_go (nI n) (nI lm) (nI r) nm sg wd G with ⟨t1, f1, k2, n2, s2, w2⟩
        rw [e1, e2] at L
        refine Or.inl ⟨r, nm, l1, b1, a1, k1, n1, t1, f1, k2, n2, s2, w2, z4, z5, nlt.mp c1, c2, L, ?_, ?_⟩
        · rw [if_neg c1, if_pos c2]; simp only [lt5, e1]
        · rw [if_neg c1, if_neg c3, if_neg (by decide)]; simp only [lt6, e2]
      · have c3 : b < nm := by rw [Int32.lt_iff_toInt_lt]; rw [Int32.le_iff_toInt_le] at c2; omega
        refine Or.inr ⟨2, by decide, ?_, ?_⟩
        · rw [if_neg c1, if_neg c2, y_X6_takeNumber_31_s]; simp only [lt4, fail0, e0]
        · rw [if_neg c1, if_pos c3, if_pos rfl]; simp only [lt2, bad_v]; rw [if_neg (by decide)]
  · refine Or.inr ⟨1, by decide, ?_, ?_⟩
    · rw [y_X6_takeNumber_s, if_neg z1]; simp only [lt4, fail0, e0]
    · rw [y_X12_readNumber_s, if_neg z2]; simp only [lt2, bad_v, ite_self]
theorem TR.signs {n p : Nat} {lt : Int64} {bh av kd nm to fr kd' nm' sg : Int32} {wd : Int64} (h : TR n p lt bh av kd nm to fr kd' nm' sg wd) (x : Int32) (hx : sgn x) : (kd = x ∧ kd' = 4 ∧ sg = x ∧ ∃ r : Nat, p < r ∧ r ≤ n ∧ bh = nI r ∧ to = nI r) ∨ (¬ kd = x ∧ ¬ (kd' = 4 ∧ sg = x)) := by
  have hx' := sgn_ne hx
  obtain ⟨-, ⟨h1, h2, -⟩ | ⟨h1, h2, -⟩ | ⟨a, r, h0, -, h1, h2, h3, h4, h⟩⟩ := h
  · subst h1; subst h2; exact Or.inr ⟨fun z => hx'.2.2.1 z.symm, fun z => absurd z.1 (by decide)⟩
  · subst h1; subst h2; exact Or.inr ⟨fun z => hx'.2.2.2 z.symm, fun z => absurd z.1 (by decide)⟩
  · rcases h with ⟨z1, z2, -⟩ | ⟨z1, z2, -, z3⟩ | ⟨z1, z2, z3, -⟩
    · subst z1; subst z2; exact Or.inr ⟨fun z => hx'.1 z.symm, fun z => absurd z.1 (by decide)⟩
    · subst z1; subst z2; exact Or.inr ⟨fun z => hx'.2.1 z.symm, fun z => absurd z.1 (by decide)⟩
    · by_cases c : kd = x
      · exact Or.inl ⟨c, z2, z3.trans c, r, by omega, h2, h3, h4⟩
      · exact Or.inr ⟨c, fun z => c (z3.symm.trans z.2)⟩
theorem op_end {n p lm : Nat} (hn : n ≤ 940) (hl : lm ≤ 940) {F G : Nat → Int32} (ha : ∀ j, j < n → F j = G j) {lt : Int64} {bh av kd nm to fr kd' nm' sg : Int32} {wd : Int64} (fa ft pl : Int32) (h : TR n p lt bh av kd nm to fr kd' nm' sg wd) :
    (∃ (p1 : Nat) (lt1 : Int64) (bh1 av1 kd1 nm1 to1 fr1 kd1' nm1' sg1 : Int32) (wd1 : Int64), p < p1 ∧ p1 ≤ n ∧ TR n p1 lt1 bh1 av1 kd1 nm1 to1 fr1 kd1' nm1' sg1 wd1 ∧ y_X6_takeSign 59 (nI n) 0 fa lt (nI lm) bh av kd nm F = (0, fa, lt1, bh1, av1, kd1, nm1) ∧ y_X12_readEnd (nI n) (nI lm) to fr kd' nm' sg ft pl wd G = (1, to1, fr1, kd1', nm1', sg1, ft, pl, wd1)) ∨
    (∃ f : Int32, ¬ f = 0 ∧ y_X6_takeSign 59 (nI n) 0 fa lt (nI lm) bh av kd nm F = (f, fr, 0, bh, av, 0, nm) ∧ y_X12_readEnd (nI n) (nI lm) to fr kd' nm' sg ft pl wd G = (0, to, fr, kd', nm', sg, f, fr, wd)) := by
  have e0 := h.1
  have hs : y_X6_seesSign 59 kd = if kd = 59 then 1 else 0 := y_X6_seesSign_s 59 kd
  have hr : y_X12_isSign 59 kd' sg = if kd' = 4 ∧ sg = 59 then 1 else 0 := by
    rw [y_X12_isSign_s]
    by_cases a : kd' = 4 <;> by_cases b : sg = 59 <;> simp [a, b]
  rw [y_X6_takeSign_s, y_X12_readEnd_s]
  simp only [lt1, hs, hr]
  rcases h.signs 59 (Or.inl rfl) with ⟨z1, z2, z3, r, z4, z5, z6, z7⟩ | ⟨z1, z2⟩
  · subst z1; subst z2; subst z3; subst z6; subst z7
    have L := lex (lt0 := lt) (av0 := av) (kd0 := 59) (nm0 := nm) (nr0 := nm') (sg0 := 59) (wd0 := wd) hn z5 hl ha
    rcases e1 : y_X6_advance (nI n) 0 lt (nI lm) (nI r) av 59 nm F with ⟨l1, b1, a1, k1, n1⟩
    rcases e2 : y_X12_go (nI n) (nI lm) (nI r) nm' 59 wd G with ⟨t1, f1, k2, n2, s2, w2⟩
    rw [e1, e2] at L
    refine Or.inl ⟨r, l1, b1, a1, k1, n1, t1, f1, k2, n2, s2, w2, z4, z5, L, ?_, ?_⟩
    · rw [if_pos rfl, if_neg (by decide)]; simp only [lt5]
    · rw [if_pos ⟨rfl, rfl⟩, if_neg (by decide)]; simp only [lt6]
  · refine Or.inr ⟨1, by decide, ?_, ?_⟩
    · rw [if_neg z1, if_pos rfl]; simp only [lt4, fail0, e0]
    · rw [if_neg z2, if_pos rfl]; simp only [lt2, bad_v, ite_self]
/-- a WORD at hand: what comes behind it -/
theorem op_go {n p lm : Nat} (hn : n ≤ 940) (hl : lm ≤ 940) {F G : Nat → Int32} (ha : ∀ j, j < n → F j = G j) {lt : Int64} {bh av kd nm to fr kd' nm' sg : Int32} {wd : Int64} (h : TR n p lt bh av kd nm to fr kd' nm' sg wd) (hk : kd = 2) :
    ∃ (p1 : Nat) (lt1 : Int64) (bh1 av1 kd1 nm1 to1 fr1 kd1' nm1' sg1 : Int32) (wd1 : Int64), p < p1 ∧ p1 ≤ n ∧ TR n p1 lt1 bh1 av1 kd1 nm1 to1 fr1 kd1' nm1' sg1 wd1 ∧ y_X6_advance (nI n) 0 lt (nI lm) bh av kd nm F = (lt1, bh1, av1, kd1, nm1) ∧ y_X12_go (nI n) (nI lm) to nm' sg wd G = (to1, fr1, kd1', nm1', sg1, wd1) ∧ kd' = 2 ∧ wr lt wd := by
  obtain ⟨-, ⟨h1, h2, -⟩ | ⟨h1, h2, -⟩ | ⟨a, r, h0, -, h1, h2, h3, h4, h⟩⟩ := h
  · rw [h1] at hk; exact absurd hk (by decide)
  · rw [h1] at hk; exact absurd hk (by decide)
  · rcases h with ⟨z1, z2, z3⟩ | ⟨z1, z2, -, -⟩ | ⟨z1, z2, -, -⟩
    · subst h3; subst h4
      have L := lex (lt0 := lt) (av0 := av) (kd0 := kd) (nm0 := nm) (nr0 := nm') (sg0 := sg) (wd0 := wd) hn h2 hl ha
      rcases e1 : y_X6_advance (nI n) 0 lt (nI lm) (nI r) av kd nm F with ⟨l1, b1, a1, k1, n1⟩
      rcases e2 : y_X12_go (nI n) (nI lm) (nI r) nm' sg wd G with ⟨t1, f1, k2, n2, s2, w2⟩
      rw [e1, e2] at L
      exact ⟨r, l1, b1, a1, k1, n1, t1, f1, k2, n2, s2, w2, by omega, h2, L, rfl, rfl, z2, z3⟩
    · rw [z1] at hk; exact absurd hk (by decide)
    · exact absurd hk (sgn_ne z1).1
