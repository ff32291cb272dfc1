/-! names, in both -/
theorem jn_v (a : Int64) (j : Int32) (N : Nat → Int64) : y_X5_jurorNamed a j N = y_X5_placeOf_10 j a N := y_X5_jurorNamed_s a j N
theorem fn_v (a : Int64) (j : Int32) (N : Nat → Int64) : y_X5_floorNamed a j N = y_X5_placeOf_4 j a N := y_X5_floorNamed_s a j N
theorem cn_v (a : Int64) (j : Int32) (N : Nat → Int64) : y_X5_caseNamed a j N = y_X5_placeOf_5 j a N := y_X5_caseNamed_s a j N
theorem told_01 (a : Int64) (j f c : Int32) (N1 N2 N3 : Nat → Int64) : y_X5_isTold a j f c N1 N2 N3 = 0 ∨ y_X5_isTold a j f c N1 N2 N3 = 1 := by
  rw [y_X5_isTold_s]
  simp only [lt1]
  split
  · split
    · split
      · exact Or.inl rfl
      · exact Or.inr rfl
    · exact Or.inr rfl
  · exact Or.inr rfl
/-- what is told so far, by its names -/
def NM (j f c : Nat) (N1 N2 N3 M : Nat → Int64) : Prop := j ≤ 10 ∧ f ≤ 4 ∧ c ≤ 5 ∧ NR 0 j N1 M ∧ NR 10 f N2 M ∧ NR 14 c N3 M
theorem op_new {n p lm : Nat} (hn : n ≤ 940) (hl : lm ≤ 940) {F G : Nat → Int32} (ha : ∀ j, j < n → F j = G j) {lt : Int64} {bh av kd nm to fr kd' nm' sg : Int32} {wd : Int64} (fa ft pl slot : Int32) {j f c : Nat} {N1 N2 N3 M : Nat → Int64} {rd : Nat → Int32} (hN : NM j f c N1 N2 N3 M) (r0 : rd 0 = nI j) (r1 : rd 1 = nI f) (r2 : rd 2 = nI c) (h : TR n p lt bh av kd nm to fr kd' nm' sg wd) :
    (∃ (p1 : Nat) (lt1 : Int64) (bh1 av1 kd1 nm1 to1 fr1 kd1' nm1' sg1 : Int32) (wd1 : Int64), p < p1 ∧ p1 ≤ n ∧ wr lt wd ∧ TR n p1 lt1 bh1 av1 kd1 nm1 to1 fr1 kd1' nm1' sg1 wd1 ∧ y_X5_isTold lt (nI j) (nI f) (nI c) N1 N2 N3 = 0 ∧ y_X6_takeNewName 0 (nI n) 0 fa lt (nI lm) bh av kd nm F = (lt, 0, fa, lt1, bh1, av1, kd1, nm1) ∧ y_X12_readNew slot (nI n) (nI lm) to fr kd' nm' sg ft pl wd rd M G = (1, to1, fr1, kd1', nm1', sg1, ft, pl, wd1, vp_updL M slot.toNatClampNeg wd)) ∨
    (∃ g : Int32, ¬ g = 0 ∧ y_X6_takeNewName (y_X5_isTold lt (nI j) (nI f) (nI c) N1 N2 N3) (nI n) 0 fa lt (nI lm) bh av kd nm F = (0, g, fr, 0, bh, av, 0, nm) ∧ y_X12_readNew slot (nI n) (nI lm) to fr kd' nm' sg ft pl wd rd M G = (0, to, fr, kd', nm', sg, g, fr, wd, M)) := by
  have e0 := h.1
  have ek := h.kr
  have en := name_w ek
  obtain ⟨hj, hf, hc, n1, n2, n3⟩ := hN
  have z0 : (0 : Int32).toNatClampNeg = 0 := by decide
  have z1 : (1 : Int32).toNatClampNeg = 1 := by decide
  have z2 : (2 : Int32).toNatClampNeg = 2 := by decide
  by_cases c0 : y_X12_isName kd' wd = 0
  · refine Or.inr ⟨1, by decide, ?_, ?_⟩
    · rw [y_X6_takeNewName_s, en, c0]; simp only [lt1, lt4, fail0, if_pos, e0]
    · rw [y_X12_readNew_s, c0]; simp only [lt1, lt2, bad_v, ite_self, if_pos]
  · have hk : kd = 2 := name_k (by rw [en]; exact c0)
    obtain ⟨p1, l1, b1, a1, k1, m1, t1, f1, k2, m2, s2, w2, g1, g2, g3, g4, g5, g6, g7⟩ := op_go hn hl ha h hk
    have q1 := find10 g7 hj n1
    have q2 := find4 g7 hf n2
    have q3 := find5 g7 hc n3
    have ht : y_X5_isTold lt (nI j) (nI f) (nI c) N1 N2 N3 = if y_X12_findIn_0 (nI j) wd M = (-1) then (if y_X12_findIn_10 (nI f) wd M = (-1) then (if y_X12_findIn_14 (nI c) wd M = (-1) then 0 else 1) else 1) else 1 := by
      rw [y_X5_isTold_s]
      simp only [lt1, jn_v, fn_v, cn_v, q1, q2, q3]
    have hc' : y_X6_takeNewName 1 (nI n) 0 fa lt (nI lm) bh av kd nm F = (0, 3, fr, 0, bh, av, 0, nm) := by
      rw [y_X6_takeNewName_s, en]; simp only [lt1, if_neg c0, if_neg (show ¬ (1 : Int32) = 0 by decide), lt4, fail0, e0]
    have hr' : y_X12_readNew_81 to fr kd' nm' sg wd M = (0, to, fr, kd', nm', sg, 3, fr, wd, M) := by
      rw [y_X12_readNew_81_s]; simp only [lt2, bad_v]; rw [if_neg (by rw [g6]; decide)]
    have hR : y_X12_readNew slot (nI n) (nI lm) to fr kd' nm' sg ft pl wd rd M G = if y_X12_findIn_0 (nI j) wd M = (-1) then (if y_X12_findIn_10 (nI f) wd M = (-1) then (if y_X12_findIn_14 (nI c) wd M = (-1) then (1, t1, f1, k2, m2, s2, ft, pl, w2, vp_updL M slot.toNatClampNeg wd) else (0, to, fr, kd', nm', sg, 3, fr, wd, M)) else (0, to, fr, kd', nm', sg, 3, fr, wd, M)) else (0, to, fr, kd', nm', sg, 3, fr, wd, M) := by
      rw [y_X12_readNew_s]
      simp only [lt1, if_neg c0, z0, z1, z2, r0, r1, r2, lt6, g5, hr']
    rw [ht, hR]
    by_cases d1 : y_X12_findIn_0 (nI j) wd M = (-1)
    · by_cases d2 : y_X12_findIn_10 (nI f) wd M = (-1)
      · by_cases d3 : y_X12_findIn_14 (nI c) wd M = (-1)
        · simp only [if_pos d1, if_pos d2, if_pos d3]
          refine Or.inl ⟨p1, l1, b1, a1, k1, m1, t1, f1, k2, m2, s2, w2, g1, g2, g7, g3, trivial, ?_, rfl⟩
          rw [y_X6_takeNewName_s, en]; simp only [lt1, if_neg c0, if_pos, lt5, g4]
        · simp only [if_pos d1, if_pos d2, if_neg d3]
          exact Or.inr ⟨3, by decide, hc', rfl⟩
      · simp only [if_pos d1, if_neg d2]
        exact Or.inr ⟨3, by decide, hc', rfl⟩
    · simp only [if_neg d1]
      exact Or.inr ⟨3, by decide, hc', rfl⟩
theorem place4 {L : Int64} {N : Nat → Int64} {many : Nat} (hm : many ≤ 4) : y_X5_placeOf_4 (nI many) L N = (-1) ∨ ∃ k, k < many ∧ y_X5_placeOf_4 (nI many) L N = nI k := by
  have key : ∀ d i n : Nat, i + d = many → d < n → y_X5_placeOf_4_3 (nI many) L N n (nI i) = (-1) ∨ ∃ k, k < many ∧ y_X5_placeOf_4_3 (nI many) L N n (nI i) = nI k := by
    intro d
    induction d with
    | zero =>
      intro i n h1 h2
      obtain ⟨n, rfl⟩ : ∃ k, n = k + 1 := ⟨n - 1, by omega⟩
      rw [y_X5_placeOf_4_3_s, if_pos (nI_le (by omega) (by omega))]
      exact Or.inl rfl
    | succ d ih =>
      intro i n h1 h2
      obtain ⟨n, rfl⟩ : ∃ k, n = k + 1 := ⟨n - 1, by omega⟩
      rw [y_X5_placeOf_4_3_s, if_neg (nI_ge (by omega) (by omega))]
      simp only [lt1, cmp0, nI_clamp (show i < 2 ^ 31 by omega), nI_1]
      by_cases z : N i = L
      · rw [if_pos z]; exact Or.inr ⟨i, by omega, rfl⟩
      · rw [if_neg z]; exact ih (i + 1) n (by omega) (by omega)
  rw [y_X5_placeOf_4_s]
  exact key many 0 _ (by omega) (by omega)
theorem place10 {L : Int64} {N : Nat → Int64} {many : Nat} (hm : many ≤ 10) : y_X5_placeOf_10 (nI many) L N = (-1) ∨ ∃ k, k < many ∧ y_X5_placeOf_10 (nI many) L N = nI k := by
  have key : ∀ d i n : Nat, i + d = many → d < n → y_X5_placeOf_10_3 (nI many) L N n (nI i) = (-1) ∨ ∃ k, k < many ∧ y_X5_placeOf_10_3 (nI many) L N n (nI i) = nI k := by
    intro d
    induction d with
    | zero =>
      intro i n h1 h2
      obtain ⟨n, rfl⟩ : ∃ k, n = k + 1 := ⟨n - 1, by omega⟩
      rw [y_X5_placeOf_10_3_s, if_pos (nI_le (by omega) (by omega))]
      exact Or.inl rfl
    | succ d ih =>
      intro i n h1 h2
      obtain ⟨n, rfl⟩ : ∃ k, n = k + 1 := ⟨n - 1, by omega⟩
      rw [y_X5_placeOf_10_3_s, if_neg (nI_ge (by omega) (by omega))]
      simp only [lt1, cmp0, nI_clamp (show i < 2 ^ 31 by omega), nI_1]
      by_cases z : N i = L
      · rw [if_pos z]; exact Or.inr ⟨i, by omega, rfl⟩
      · rw [if_neg z]; exact ih (i + 1) n (by omega) (by omega)
  rw [y_X5_placeOf_10_s]
  exact key many 0 _ (by omega) (by omega)
theorem nI_m1 {k : Nat} (h : k ≤ 940) : ¬ nI k = (-1) := fun e => by
  have z : (nI k).toInt = (k : Int) := nI_toInt (by omega)
  rw [e, show ((-1) : Int32).toInt = -1 from by decide] at z
  omega
/-- a FLOOR, a JUROR that must be told: 'x' is as what the class has found it -/
theorem found_ok {n p lm : Nat} (hn : n ≤ 940) (hl : lm ≤ 940) {F G : Nat → Int32} (ha : ∀ j, j < n → F j = G j) {lt : Int64} {bh av kd nm to fr kd' nm' sg : Int32} {wd : Int64} (fa : Int32) {x : Int32} (hx : ¬ x = (-1)) (c0 : ¬ y_X12_isName kd' wd = 0) (h : TR n p lt bh av kd nm to fr kd' nm' sg wd) :
    ∃ (p1 : Nat) (lt1 : Int64) (bh1 av1 kd1 nm1 to1 fr1 kd1' nm1' sg1 : Int32) (wd1 : Int64), p < p1 ∧ p1 ≤ n ∧ TR n p1 lt1 bh1 av1 kd1 nm1 to1 fr1 kd1' nm1' sg1 wd1 ∧ y_X6_takeFound x (nI n) 0 fa lt (nI lm) bh av kd nm F = (x, 0, fa, lt1, bh1, av1, kd1, nm1) ∧ y_X12_go (nI n) (nI lm) to nm' sg wd G = (to1, fr1, kd1', nm1', sg1, wd1) := by
  have en := name_w h.kr
  obtain ⟨p1, l1, b1, a1, k1, m1, t1, f1, k2, m2, s2, w2, g1, g2, g3, g4, g5, g6, g7⟩ := op_go hn hl ha h (name_k (by rw [en]; exact c0))
  refine ⟨p1, l1, b1, a1, k1, m1, t1, f1, k2, m2, s2, w2, g1, g2, g3, ?_, g5⟩
  rw [y_X6_takeFound_s, en]; simp only [lt1, if_neg c0, if_neg hx, lt5, g4]
theorem found_bad {n p lm : Nat} {F : Nat → Int32} {lt : Int64} {bh av kd nm to fr kd' nm' sg : Int32} {wd : Int64} (fa : Int32) {x : Int32} (h : TR n p lt bh av kd nm to fr kd' nm' sg wd) (c : y_X12_isName kd' wd = 0 ∨ x = (-1)) :
    y_X6_takeFound x (nI n) 0 fa lt (nI lm) bh av kd nm F = ((-1), (if y_X12_isName kd' wd = 0 then 1 else 3), fr, 0, bh, av, 0, nm) := by
  have e0 := h.1
  have en := name_w h.kr
  rw [y_X6_takeFound_s, en]
  by_cases c0 : y_X12_isName kd' wd = 0
  · simp only [lt1, c0, if_pos, lt4, fail0, e0]
  · have hx := c.resolve_left c0
    simp only [lt1, if_neg c0, if_pos hx, lt4, fail0, e0]
theorem isOne_f_v {n p : Nat} {lt : Int64} {bh av kd nm to fr kd' nm' sg : Int32} {wd : Int64} (ft pl td : Int32) {f : Nat} {N2 M : Nat → Int64} (hf : f ≤ 4) (n2 : NR 10 f N2 M) (h : TR n p lt bh av kd nm to fr kd' nm' sg wd) :
    (∃ k, k < f ∧ ¬ y_X12_isName kd' wd = 0 ∧ y_X5_floorNamed lt (nI f) N2 = nI k ∧ y_X12_isOne_f (nI f) fr kd' ft pl wd td M = (1, ft, pl, nI k)) ∨
    (∃ t, (y_X12_isName kd' wd = 0 ∨ y_X5_floorNamed lt (nI f) N2 = (-1)) ∧ y_X12_isOne_f (nI f) fr kd' ft pl wd td M = (0, (if y_X12_isName kd' wd = 0 then 1 else 3), fr, t)) := by
  have en := name_w h.kr
  rw [y_X12_isOne_f_s]
  by_cases c0 : y_X12_isName kd' wd = 0
  · refine Or.inr ⟨td, Or.inl c0, ?_⟩
    simp only [lt1, c0, if_pos, lt2, bad_v, ite_self]
  · have hk : kd = 2 := name_k (by rw [en]; exact c0)
    have kr := h.kr
    rcases kr with ⟨-, k2, k3⟩ | ⟨k1, -⟩
    · have q := find4 k3 hf n2
      rw [fn_v]
      rcases place4 (L := lt) (N := N2) hf with e | ⟨k, hk', e⟩
      · refine Or.inr ⟨(-1), Or.inr e, ?_⟩
        simp only [lt1, if_neg c0, ← q, e, if_pos, lt2, bad_v]
        rw [if_neg (by rw [k2]; decide)]
      · refine Or.inl ⟨k, hk', c0, e, ?_⟩
        simp only [lt1, if_neg c0, ← q, e, if_neg (nI_m1 (show k ≤ 940 by omega))]
    · exact absurd hk k1
theorem isOne_j_v {n p : Nat} {lt : Int64} {bh av kd nm to fr kd' nm' sg : Int32} {wd : Int64} (ft pl td : Int32) {j : Nat} {N1 M : Nat → Int64} (hj : j ≤ 10) (n1 : NR 0 j N1 M) (h : TR n p lt bh av kd nm to fr kd' nm' sg wd) :
    (∃ k, k < j ∧ ¬ y_X12_isName kd' wd = 0 ∧ y_X5_jurorNamed lt (nI j) N1 = nI k ∧ y_X12_isOne_j (nI j) fr kd' ft pl wd td M = (1, ft, pl, nI k)) ∨
    (∃ t, (y_X12_isName kd' wd = 0 ∨ y_X5_jurorNamed lt (nI j) N1 = (-1)) ∧ y_X12_isOne_j (nI j) fr kd' ft pl wd td M = (0, (if y_X12_isName kd' wd = 0 then 1 else 3), fr, t)) := by
  have en := name_w h.kr
  rw [y_X12_isOne_j_s]
  by_cases c0 : y_X12_isName kd' wd = 0
  · refine Or.inr ⟨td, Or.inl c0, ?_⟩
    simp only [lt1, c0, if_pos, lt2, bad_v, ite_self]
  · have hk : kd = 2 := name_k (by rw [en]; exact c0)
    have kr := h.kr
    rcases kr with ⟨-, k2, k3⟩ | ⟨k1, -⟩
    · have q := find10 k3 hj n1
      rw [jn_v]
      rcases place10 (L := lt) (N := N1) hj with e | ⟨k, hk', e⟩
      · refine Or.inr ⟨(-1), Or.inr e, ?_⟩
        simp only [lt1, if_neg c0, ← q, e, if_pos, lt2, bad_v]
        rw [if_neg (by rw [k2]; decide)]
      · refine Or.inl ⟨k, hk', c0, e, ?_⟩
        simp only [lt1, if_neg c0, ← q, e, if_neg (nI_m1 (show k ≤ 940 by omega))]
    · exact absurd hk k1
