/-! a TOKEN, in both -/
theorem ref96L {n q : Nat} {G : Nat → Int32} {num sg : Int32} {wd : Int64} (hn : n ≤ 940) (h : q < n) (hx : isL (G q)) : y_X12_go_96 (nI n) num sg wd G (nI q) (nI q) = y_X12_go_215 (nI n) sg G 940 1 1 (nI (q + 1)) (nI q) (0 + G q - 48) (0 + (G q).toInt64 - 96) := by
  have hq : (nI q).toNatClampNeg = q := nI_clamp (by omega)
  have hs : nI q - nI q = 0 := by rw [nI_sub (Nat.le_refl q) (show q ≤ 940 by omega), Nat.sub_self]; rfl
  have hg : ¬ nI n ≤ nI q := nI_ge h (by omega)
  rw [y_X12_go_96_s, if_pos (nI_lt h (by omega))]
  show (if G (nI q).toNatClampNeg < 97 then _ else _) = _
  rw [hq, if_neg hx.1, if_neg hx.2]
  show (if G q < 97 then _ else _) = _
  rw [if_neg hx.1, if_neg hx.2]
  show (if nI n ≤ nI q then _ else _) = _
  rw [if_neg hg]
  show (if G q < 97 then _ else _) = _
  rw [if_neg hx.1, if_neg hx.2]
  show (if G q < 97 then _ else _) = _
  rw [if_neg hx.1, if_neg hx.2]
  show (if (7 : Int32) ≤ nI q - nI q then _ else _) = _
  rw [hs, if_neg (by decide)]
  simp only [lt1]
  rw [if_neg (by decide), nI_1]
theorem ref96D {n q : Nat} {G : Nat → Int32} {num sg : Int32} {wd : Int64} (hn : n ≤ 940) (h : q < n) (hx : isD (G q)) : y_X12_go_96 (nI n) num sg wd G (nI q) (nI q) = y_X12_go_215 (nI n) sg G 940 0 1 (nI (q + 1)) (nI q) (0 + G q - 48) (0 + (G q).toInt64 - 96) := by
  have hq : (nI q).toNatClampNeg = q := nI_clamp (by omega)
  have hs : nI q - nI q = 0 := by rw [nI_sub (Nat.le_refl q) (show q ≤ 940 by omega), Nat.sub_self]; rfl
  have hg : ¬ nI n ≤ nI q := nI_ge h (by omega)
  rw [y_X12_go_96_s, if_pos (nI_lt h (by omega))]
  show (if G (nI q).toNatClampNeg < 97 then _ else _) = _
  rw [hq, if_pos (isD_nL hx)]
  show (if G q < 48 then _ else _) = _
  rw [if_neg hx.1, if_neg hx.2]
  show (if G q < 97 then _ else _) = _
  rw [if_pos (isD_nL hx)]
  show (if nI n ≤ nI q then _ else _) = _
  rw [if_neg hg]
  show (if G q < 97 then _ else _) = _
  rw [if_pos (isD_nL hx)]
  show (if nI n ≤ nI q then _ else _) = _
  rw [if_neg hg]
  show (if G q < 48 then _ else _) = _
  rw [if_neg hx.1, if_neg hx.2]
  show (if G q < 97 then _ else _) = _
  rw [if_pos (isD_nL hx)]
  show (if (7 : Int32) ≤ nI q - nI q then _ else _) = _
  rw [hs, if_neg (by decide)]
  simp only [lt1]
  rw [if_neg (by decide), nI_1]
def sgn (x : Int32) : Prop := x = 59 ∨ x = 60 ∨ x = 61 ∨ x = 62 ∨ x = 40 ∨ x = 41
theorem isSign_v (x : Int32) : (sgn x ∧ y_X6_isSign x = 1) ∨ (¬ sgn x ∧ y_X6_isSign x = 0) := by
  rw [y_X6_isSign_s]
  unfold sgn
  by_cases a : x = 59
  · subst a; exact Or.inl ⟨by decide, by decide⟩
  by_cases b : x = 60
  · subst b; exact Or.inl ⟨by decide, by decide⟩
  by_cases c : x = 61
  · subst c; exact Or.inl ⟨by decide, by decide⟩
  by_cases d : x = 62
  · subst d; exact Or.inl ⟨by decide, by decide⟩
  by_cases e : x = 40
  · subst e; exact Or.inl ⟨by decide, by decide⟩
  by_cases f : x = 41
  · subst f; exact Or.inl ⟨by decide, by decide⟩
  refine Or.inr ⟨?_, ?_⟩
  · rintro (z | z | z | z | z | z)
    · exact a z
    · exact b z
    · exact c z
    · exact d z
    · exact e z
    · exact f z
  · simp only [if_neg a, if_neg b, if_neg c, if_neg d, if_neg e, if_neg f]
theorem ref96S {n q : Nat} {G : Nat → Int32} {num sg : Int32} {wd : Int64} (hn : n ≤ 940) (h : q < n) (h1 : ¬ isL (G q)) (h2 : ¬ isD (G q)) : (sgn (G q) ∧ y_X12_go_96 (nI n) num sg wd G (nI q) (nI q) = (nI (q + 1), nI q, 4, num, G q, wd)) ∨ (¬ sgn (G q) ∧ y_X12_go_96 (nI n) num sg wd G (nI q) (nI q) = (nI (q + 1), nI q, 1, num, G q, wd)) := by
  have hq : (nI q).toNatClampNeg = q := nI_clamp (by omega)
  unfold sgn
  by_cases c1 : G q < 97
  · by_cases c2 : G q < 48
    · by_cases a : G q = 40
      · have E : y_X12_go_96 (nI n) num sg wd G (nI q) (nI q) = (nI (q + 1), nI q, 4, num, G q, wd) := by
          rw [y_X12_go_96_s, if_pos (nI_lt h (by omega))]
          show (if G (nI q).toNatClampNeg < 97 then _ else _) = _
          rw [hq, if_pos c1]
          show (if G q < 48 then _ else _) = _
          rw [if_pos c2, if_pos a]
          simp only [lt1, y_X12_go_174_s, y_X12_go_179_s, nI_1]
        exact Or.inl ⟨by rw [a]; decide, E⟩
      by_cases b : G q = 41
      · have E : y_X12_go_96 (nI n) num sg wd G (nI q) (nI q) = (nI (q + 1), nI q, 4, num, G q, wd) := by
          rw [y_X12_go_96_s, if_pos (nI_lt h (by omega))]
          show (if G (nI q).toNatClampNeg < 97 then _ else _) = _
          rw [hq, if_pos c1]
          show (if G q < 48 then _ else _) = _
          rw [if_pos c2, if_neg a, if_pos b]
          simp only [lt1, y_X12_go_174_s, y_X12_go_179_s, nI_1]
        exact Or.inl ⟨by rw [b]; decide, E⟩
      have E : y_X12_go_96 (nI n) num sg wd G (nI q) (nI q) = (nI (q + 1), nI q, 1, num, G q, wd) := by
        rw [y_X12_go_96_s, if_pos (nI_lt h (by omega))]
        show (if G (nI q).toNatClampNeg < 97 then _ else _) = _
        rw [hq, if_pos c1]
        show (if G q < 48 then _ else _) = _
        rw [if_pos c2, if_neg a, if_neg b]
        simp only [lt1, y_X12_go_174_s, y_X12_go_179_s, nI_1]
      refine Or.inr ⟨?_, E⟩
      rintro (z | z | z | z | z | z)
      · rw [z] at c2; exact absurd c2 (by decide)
      · rw [z] at c2; exact absurd c2 (by decide)
      · rw [z] at c2; exact absurd c2 (by decide)
      · rw [z] at c2; exact absurd c2 (by decide)
      · exact a z
      · exact b z
    · have c3 : (57 : Int32) < G q := by
        by_cases c3 : (57 : Int32) < G q
        · exact c3
        · exact absurd ⟨c2, c3⟩ h2
      by_cases x1 : G q = 59
      · have E : y_X12_go_96 (nI n) num sg wd G (nI q) (nI q) = (nI (q + 1), nI q, 4, num, G q, wd) := by
          rw [y_X12_go_96_s, if_pos (nI_lt h (by omega))]
          show (if G (nI q).toNatClampNeg < 97 then _ else _) = _
          rw [hq, if_pos c1]
          show (if G q < 48 then _ else _) = _
          rw [if_neg c2, if_pos c3, if_pos x1]
          simp only [lt1, y_X12_go_174_s, y_X12_go_179_s, nI_1]
        exact Or.inl ⟨by rw [x1]; decide, E⟩
      by_cases x2 : G q = 60
      · have E : y_X12_go_96 (nI n) num sg wd G (nI q) (nI q) = (nI (q + 1), nI q, 4, num, G q, wd) := by
          rw [y_X12_go_96_s, if_pos (nI_lt h (by omega))]
          show (if G (nI q).toNatClampNeg < 97 then _ else _) = _
          rw [hq, if_pos c1]
          show (if G q < 48 then _ else _) = _
          rw [if_neg c2, if_pos c3, if_neg x1, if_pos x2]
          simp only [lt1, y_X12_go_174_s, y_X12_go_179_s, nI_1]
        exact Or.inl ⟨by rw [x2]; decide, E⟩
      by_cases x3 : G q = 61
      · have E : y_X12_go_96 (nI n) num sg wd G (nI q) (nI q) = (nI (q + 1), nI q, 4, num, G q, wd) := by
          rw [y_X12_go_96_s, if_pos (nI_lt h (by omega))]
          show (if G (nI q).toNatClampNeg < 97 then _ else _) = _
          rw [hq, if_pos c1]
          show (if G q < 48 then _ else _) = _
          rw [if_neg c2, if_pos c3, if_neg x1, if_neg x2, if_pos x3]
          simp only [lt1, y_X12_go_174_s, y_X12_go_179_s, nI_1]
        exact Or.inl ⟨by rw [x3]; decide, E⟩
      by_cases x4 : G q = 62
      · have E : y_X12_go_96 (nI n) num sg wd G (nI q) (nI q) = (nI (q + 1), nI q, 4, num, G q, wd) := by
          rw [y_X12_go_96_s, if_pos (nI_lt h (by omega))]
          show (if G (nI q).toNatClampNeg < 97 then _ else _) = _
          rw [hq, if_pos c1]
          show (if G q < 48 then _ else _) = _
          rw [if_neg c2, if_pos c3, if_neg x1, if_neg x2, if_neg x3, if_pos x4]
          simp only [lt1, y_X12_go_174_s, y_X12_go_179_s, nI_1]
        exact Or.inl ⟨by rw [x4]; decide, E⟩
      have E : y_X12_go_96 (nI n) num sg wd G (nI q) (nI q) = (nI (q + 1), nI q, 1, num, G q, wd) := by
        rw [y_X12_go_96_s, if_pos (nI_lt h (by omega))]
        show (if G (nI q).toNatClampNeg < 97 then _ else _) = _
        rw [hq, if_pos c1]
        show (if G q < 48 then _ else _) = _
        rw [if_neg c2, if_pos c3, if_neg x1, if_neg x2, if_neg x3, if_neg x4]
        simp only [lt1, y_X12_go_174_s, y_X12_go_179_s, nI_1]
      refine Or.inr ⟨?_, E⟩
      rintro (z | z | z | z | z | z)
      · exact x1 z
      · exact x2 z
      · exact x3 z
      · exact x4 z
      · rw [z] at c3; exact absurd c3 (by decide)
      · rw [z] at c3; exact absurd c3 (by decide)
  · have c2 : (122 : Int32) < G q := by
      by_cases c2 : (122 : Int32) < G q
      · exact c2
      · exact absurd ⟨c1, c2⟩ h1
    have c4 : ¬ G q < 48 := fun z => c1 (by rw [Int32.lt_iff_toInt_lt] at z ⊢; have z1 : (48 : Int32).toInt = 48 := (by decide); have z2 : (97 : Int32).toInt = 97 := (by decide); omega)
    have c5 : (57 : Int32) < G q := by rw [Int32.lt_iff_toInt_lt] at c2 ⊢; have z1 : (57 : Int32).toInt = 57 := (by decide); have z2 : (122 : Int32).toInt = 122 := (by decide); omega
    have E : y_X12_go_96 (nI n) num sg wd G (nI q) (nI q) = (nI (q + 1), nI q, 1, num, G q, wd) := by
      rw [y_X12_go_96_s, if_pos (nI_lt h (by omega))]
      show (if G (nI q).toNatClampNeg < 97 then _ else _) = _
      rw [hq, if_neg c1, if_pos c2]
      show (if G q < 48 then _ else _) = _
      rw [if_neg c4, if_pos c5]
      simp only [lt1, y_X12_go_174_s, y_X12_go_179_s, nI_1]
    refine Or.inr ⟨?_, E⟩
    rintro (z | z | z | z | z | z)
    all_goals (rw [z] at c2; exact absurd c2 (by decide))
def TR (n p : Nat) (lt : Int64) (bh av kd nm : Int32) (to fr kd' nm' sg : Int32) (wd : Int64) : Prop :=
  av = fr ∧ ((kd = 1 ∧ kd' = 0 ∧ lt = 0) ∨ (kd = 0 ∧ kd' = 1 ∧ lt = 0) ∨ (∃ a r : Nat, p ≤ a ∧ av = nI a ∧ a < r ∧ r ≤ n ∧ bh = nI r ∧ to = nI r ∧ ((kd = 2 ∧ kd' = 2 ∧ wr lt wd) ∨ (kd = 3 ∧ kd' = 3 ∧ lt = 0 ∧ nm = nm') ∨ (sgn kd ∧ kd' = 4 ∧ sg = kd ∧ lt = 0))))
def TRt (n p : Nat) (c : Int64 × Int32 × Int32 × Int32 × Int32) (t : Int32 × Int32 × Int32 × Int32 × Int32 × Int64) : Prop := TR n p c.1 c.2.1 c.2.2.1 c.2.2.2.1 c.2.2.2.2 t.1 t.2.1 t.2.2.1 t.2.2.2.1 t.2.2.2.2.1 t.2.2.2.2.2
theorem isBroken0 : y_X6_isBroken 0 = 0 := by rw [y_X6_isBroken_s, if_pos rfl]
theorem advC {n p lm : Nat} (hn : n ≤ 940) (hp : p ≤ n) (hl : lm ≤ 940) {F : Nat → Int32} {lt0 : Int64} {av0 kd0 nm0 : Int32} : y_X6_advance (nI n) 0 lt0 (nI lm) (nI p) av0 kd0 nm0 F = y_X6_advance_69 (nI n) (nI lm) nm0 F (nI (min lm n)) (nI (sk F (min lm n) (min lm n - p) p)) := by
  rw [y_X6_advance_s]
  simp only [lt1, isBroken0, if_pos]
  have e : (if nI lm < nI n then nI lm else nI n) = nI (min lm n) := by
    by_cases c : lm < n
    · rw [if_pos (nI_lt c (by omega)), Nat.min_eq_left (by omega)]
    · rw [if_neg (by rw [Int32.lt_iff_toInt_lt, nI_toInt (by omega), nI_toInt (by omega)]; omega), Nat.min_eq_right (by omega)]
  rw [e, skC (nI n) (nI lm) nm0 F 940 (min lm n) p (by omega) (by omega) (by omega)]
theorem lex {n p lm : Nat} (hn : n ≤ 940) (hp : p ≤ n) (hl : lm ≤ 940) {F G : Nat → Int32} (ha : ∀ j, j < n → F j = G j) {lt0 : Int64} {av0 kd0 nm0 nr0 sg0 : Int32} {wd0 : Int64} : TRt n p (y_X6_advance (nI n) 0 lt0 (nI lm) (nI p) av0 kd0 nm0 F) (y_X12_go (nI n) (nI lm) (nI p) nr0 sg0 wd0 G) := by
  rw [goR _ _ _ _ _ n p hn (by omega), advC hn hp hl]
  obtain ⟨s1, s2⟩ := sk_two (F := F) (G := G) (e := min lm n) (n := n) (by omega) ha (min lm n - p) p (Nat.le_refl _)
  have s3 := sk_ge F (min lm n) (min lm n - p) p
  have s4 := sk_ge G n (n - p) p
  have s5 := sk_le G n (n - p) p hp
  have s6 := sk_mx F (min lm n) (min lm n - p) p
  generalize sk F (min lm n) (min lm n - p) p = q at s1 s2 s3 s6 ⊢
  generalize sk G n (n - p) p = q' at s1 s2 s4 s5 ⊢
  by_cases c : q < min lm n
  · have eq := s1 c
    subst eq
    have h1 : q' < n := by omega
    have hf := ha q' h1
    have e52 : y_X12_go_52 (nI n) (nI lm) nr0 sg0 wd0 G (nI q') = y_X12_go_96 (nI n) nr0 sg0 wd0 G (nI q') (nI q') := by
      rw [y_X12_go_52_s]
      by_cases d : n ≤ lm
      · rw [if_pos (nI_le d (by omega))]
      · rw [if_neg (nI_ge (by omega) (by omega)), if_pos (nI_lt (by omega) (by omega))]
    rw [e52, y_X6_advance_69_s, if_pos (nI_lt c (by omega)), y_X6_readRun_s]
    have fin : ∀ {cc : Int64 × Int32 × Int32 × Int32} {t : Int32 × Int32 × Int32 × Int32 × Int32 × Int64}, RR n q' cc t → TRt n p (lt4 cc fun u1 u2 u3 u4 => if u2 = nI q' then (lt1 (F (nI q').toNatClampNeg) fun x => lt1 (y_X6_isSign x) fun r => if r = 1 then y_X6_advance_160 x u1 u2 (nI q') u4 else y_X6_advance_160 0 u1 u2 (nI q') u4) else (u1, u2, nI q', u3, u4)) t := by
      intro cc t h
      obtain ⟨r, r1, r2, r3, r4, r5, r6⟩ := h
      show TRt n p (if cc.2.1 = nI q' then _ else _) t
      rw [r3, if_neg (fun z => absurd (nI_inj (by omega) (by omega) z) (by omega))]
      refine ⟨r5.symm, ?_⟩
      rcases r6 with ⟨z1, z2, z3⟩ | ⟨z1, z2, z3, z4⟩ | ⟨z1, z2, z3⟩
      · exact Or.inr (Or.inr ⟨q', r, s3, rfl, r1, r2, rfl, r4, Or.inl ⟨z1, z2, z3⟩⟩)
      · exact Or.inr (Or.inr ⟨q', r, s3, rfl, r1, r2, rfl, r4, Or.inr (Or.inl ⟨z1, z2, z3, z4⟩)⟩)
      · exact Or.inr (Or.inl ⟨z1, z2, z3⟩)
    by_cases c1 : isL (F q')
    · rw [classL hn h1 c1, ref96L hn h1 (hf ▸ c1)]
      refine fin (run2 hn ha (n - (q' + 1)) (q' + 1) [F q'] _ _ _ _ _ _ _ _ 939 939 (by omega) (by simp) ⟨by simp, Or.inl ⟨fun x hx => ?_, (by show (0 : Int32) + 1 = nI 1; decide), rfl, rfl, rfl, fun _ => ⟨rfl, ?_⟩⟩⟩ (by omega) (by omega))
      · rw [List.mem_singleton.mp hx]; exact c1
      · rw [← hf]
        show 0 + (F q').toInt64 - 96 = 27 * 0 + (F q').toInt64 - 96
        rw [show (27 : Int64) * 0 = 0 from by decide]
    · by_cases c2 : isD (F q')
      · rw [classD hn h1 c2, ref96D hn h1 (hf ▸ c2)]
        refine fin (run2 hn ha (n - (q' + 1)) (q' + 1) [F q'] _ _ _ _ _ _ _ _ 939 939 (by omega) (by simp) ⟨by simp, Or.inr (Or.inl ⟨fun x hx => ?_, rfl, (by show (0 : Int32) + 1 = nI 1; decide), rfl, rfl, fun _ => ?_⟩)⟩ (by omega) (by omega))
        · rw [List.mem_singleton.mp hx]; exact c2
        · rw [← hf, n10]
          rw [show (10 : Int32) * 0 = 0 from by decide]
      · rw [classE hn (by omega) (fun _ => ⟨c1, c2⟩), y_X6_readRun_112_s, if_pos rfl, if_neg (by decide), y_X6_readRun_152_s, if_pos rfl]
        simp only [lt4, lt1, nI_clamp (show q' < 2 ^ 31 by omega), if_pos, y_X6_advance_160_s, nI_1]
        rcases isSign_v (F q') with ⟨z1, z2⟩ | ⟨z1, z2⟩
        · rw [z2, if_pos rfl]
          rcases ref96S (num := nr0) (sg := sg0) (wd := wd0) hn h1 (hf ▸ c1) (hf ▸ c2) with ⟨w1, w2⟩ | ⟨w1, w2⟩
          · rw [w2, ← hf]
            exact ⟨rfl, Or.inr (Or.inr ⟨q', q' + 1, s3, rfl, by omega, by omega, rfl, rfl, Or.inr (Or.inr ⟨z1, rfl, rfl, rfl⟩)⟩)⟩
          · exact absurd (hf ▸ z1) w1
        · rw [z2, if_neg (by decide)]
          rcases ref96S (num := nr0) (sg := sg0) (wd := wd0) hn h1 (hf ▸ c1) (hf ▸ c2) with ⟨w1, w2⟩ | ⟨w1, w2⟩
          · exact absurd (hf ▸ w1) z1
          · rw [w2]
            exact ⟨rfl, Or.inr (Or.inl ⟨rfl, rfl, rfl⟩)⟩
  · have h1 := s2 (by omega)
    rw [y_X6_advance_69_s, if_neg (show ¬ nI q < nI (min lm n) from fun z => by rw [Int32.lt_iff_toInt_lt, nI_toInt (show q < 2 ^ 31 by omega), nI_toInt (show min lm n < 2 ^ 31 by omega)] at z; omega), y_X12_go_52_s]
    by_cases d : n ≤ lm
    · have e1 : q' = n := by omega
      rw [if_pos (nI_le d (by omega)), if_pos (nI_le d (by omega)), y_X6_advance_104_s, y_X12_go_96_s, e1, if_neg (by rw [Int32.lt_iff_toInt_lt]; omega), Nat.min_eq_right d]
      exact ⟨rfl, Or.inl ⟨rfl, rfl, rfl⟩⟩
    · rw [if_neg (nI_ge (by omega) (by omega)), if_neg (nI_ge (by omega) (by omega)), if_neg (by rw [Int32.lt_iff_toInt_lt, nI_toInt (by omega), nI_toInt (by omega)]; omega), y_X6_advance_104_s, Nat.min_eq_left (by omega)]
      exact ⟨rfl, Or.inr (Or.inl ⟨rfl, rfl, rfl⟩)⟩
