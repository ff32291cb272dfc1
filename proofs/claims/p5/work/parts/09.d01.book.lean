theorem lt40 {a : Nat} (h : a < 40) : nI a < (40 : Int32) := by
  rw [Int32.lt_iff_toInt_lt, nI_toInt (by omega), show (40 : Int32).toInt = 40 from by decide]; omega
def BKR (n : Nat) (fa ft pl : Int32) (o : Nat) (c : Int32 × Int32 × Int32 × Int64 × Int32 × Int32 × Int32 × Int32) (r : Int32 × Int32 × Int32 × Int32 × Int32 × Int32 × Int32 × Int32 × Int64 × Int32) : Prop :=
  (∃ (p9 : Nat) (l9 : Int64) (b9 a9 k9 m9 t9 f9 q9 n9 s9 : Int32) (v9 : Int64) (td9 : Int32), o < 40 ∧ TR n p9 l9 b9 a9 k9 m9 t9 f9 q9 n9 s9 v9 ∧ c = (nI (o + 1), 0, fa, l9, b9, a9, k9, m9) ∧ r = (1, t9, f9, q9, n9, s9, ft, pl, v9, td9)) ∨
  (∃ g P : Int32, ¬ g = 0 ∧ (∃ x0 x1 x2 x3 : Int32, c = (x0, g, P, 0, x1, x2, 0, x3)) ∧ ∃ (y0 y1 y2 y3 y4 : Int32) (y5 : Int64) (y6 : Int32), r = (0, y0, y1, y2, y3, y4, g, P, y5, y6))
theorem book_line {n p lm : Nat} (hn : n ≤ 940) (hl : lm ≤ 940) {F G : Nat → Int32} (ha : ∀ j, j < n → F j = G j) {j c : Nat} (hj : j ≤ 10) (hc : c ≤ 5) {N1 N3 M : Nat → Int64} (nr1 : NR 0 j N1 M) (nr3 : NR 14 c N3 M) {now : Nat → Int32} (w0 : now 0 = nI j) (w2_ : now 2 = nI c) {o : Nat} {lt : Int64} {bh av kd nm to fr kd' nm' sg : Int32} {wd : Int64} (fa ft pl td : Int32) (ho : o ≤ 40) (h : TR n p lt bh av kd nm to fr kd' nm' sg wd) :
    BKR n fa ft pl o (y_X1_readLine (nI o) (nI n) 0 fa lt (nI lm) bh av kd nm (nI j) (nI c) N1 F N3) (y_X12_readBookLine (nI n) (nI lm) to fr kd' nm' sg ft pl wd td (nI o) now M G) := by
  have e0 := h.1
  have z0 : (0 : Int32).toNatClampNeg = 0 := by decide
  have z2 : (2 : Int32).toNatClampNeg = 2 := by decide
  have h3 : ¬ (3 : Int32) = 0 := by decide
  have h4 : ¬ (4 : Int32) = 0 := by decide
  by_cases c12 : kd' = 2 ∧ wd = wv 12
  · have n13 : ¬ (kd' = 2 ∧ wd = wv 13) := (fun z => absurd (wv_inj 13 (by decide) 12 (by decide) (z.2.symm.trans c12.2)) (by decide))
    have n14 : ¬ (kd' = 2 ∧ wd = wv 14) := (fun z => absurd (wv_inj 14 (by decide) 12 (by decide) (z.2.symm.trans c12.2)) (by decide))
    have hk : kd = 2 := by
      rcases h.kr with ⟨x, -, -⟩ | ⟨-, y⟩
      · exact x
      · exact absurd c12.1 y
    have nk1 : ¬ kd' = 1 := by rw [c12.1]; decide
    obtain ⟨p1, l1, b1, a1, k1, m1, t1, f1, q1, n1, s1, w1, -, -, g3, ga, gg, -, -⟩ := op_go hn hl ha h hk
    by_cases ho40 : o < 40
    · rcases named_c hn hl ha fa ft pl td hc nr3 g3 with ⟨p2, l2, b2, a2, k2, m2, t2, f2, q2, n2, s2, w2, k, d3, hk', e3, e4⟩ | ⟨g, t', hg, e3, e4⟩
      · have km : ¬ nI k = (-1) := nI_m1 (by omega)
        rcases op_end hn hl ha fa ft pl d3 with ⟨p9, l9, b9, a9, k9, m9, t9, f9, q9, n9, s9, v9, -, -, u3, uc, ur⟩ | ⟨g, hg, uc, ur⟩
        · have qc : y_X1_readLine (nI o) (nI n) 0 fa lt (nI lm) bh av kd nm (nI j) (nI c) N1 F N3 = (nI (o + 1), 0, fa, l9, b9, a9, k9, m9) := by rw [y_X1_readLine_s, act_v h.kr, if_pos c12, lt1_v, if_neg (show ¬ (5 : Int32) = (-1) by decide), if_neg (show ¬ (5 : Int32) = 7 by decide), if_neg (show ¬ (5 : Int32) = 6 by decide), if_pos (show nI o < (40 : Int32) from lt40 ho40), ga, lt5_t, lt1_v, e3, lt8_t, if_neg km, uc, lt7_t, isBroken0, lt1_v, if_pos rfl, lt1_v, nI_1]
          have qr : y_X12_readBookLine (nI n) (nI lm) to fr kd' nm' sg ft pl wd td (nI o) now M G = (1, t9, f9, q9, n9, s9, ft, pl, v9, nI k) := by rw [y_X12_readBookLine_s, isWord_v12, if_pos c12, lt1_v, if_neg oz, isWord_v13, if_neg n13, lt1_v, if_pos rfl, isWord_v14, if_neg n14, lt1_v, if_pos rfl, if_neg (show ¬ nI o = (40 : Int32) from nI_ne (b := 40) (by omega) (by omega) (by omega)), gg, lt6_t, z2, w2_, lt1_v, e4, lt10_t, if_neg oz, ur, lt9_t, if_neg oz]
          exact Or.inl ⟨p9, l9, b9, a9, k9, m9, t9, f9, q9, n9, s9, v9, _, ho40, u3, qc, qr⟩
        · have qc : y_X1_readLine (nI o) (nI n) 0 fa lt (nI lm) bh av kd nm (nI j) (nI c) N1 F N3 = (nI o, g, f2, 0, b2, a2, 0, m2) := by rw [y_X1_readLine_s, act_v h.kr, if_pos c12, lt1_v, if_neg (show ¬ (5 : Int32) = (-1) by decide), if_neg (show ¬ (5 : Int32) = 7 by decide), if_neg (show ¬ (5 : Int32) = 6 by decide), if_pos (show nI o < (40 : Int32) from lt40 ho40), ga, lt5_t, lt1_v, e3, lt8_t, if_neg km, uc, lt7_t, isBroken1 hg, lt1_v, if_neg oz]
          have qr : y_X12_readBookLine (nI n) (nI lm) to fr kd' nm' sg ft pl wd td (nI o) now M G = (0, t2, f2, q2, n2, s2, g, f2, w2, nI k) := by rw [y_X12_readBookLine_s, isWord_v12, if_pos c12, lt1_v, if_neg oz, isWord_v13, if_neg n13, lt1_v, if_pos rfl, isWord_v14, if_neg n14, lt1_v, if_pos rfl, if_neg (show ¬ nI o = (40 : Int32) from nI_ne (b := 40) (by omega) (by omega) (by omega)), gg, lt6_t, z2, w2_, lt1_v, e4, lt10_t, if_neg oz, ur, lt9_t, if_pos rfl]
          exact Or.inr ⟨g, f2, hg, ⟨_, _, _, _, qc⟩, _, _, _, _, _, _, _, qr⟩
      · have qc : y_X1_readLine (nI o) (nI n) 0 fa lt (nI lm) bh av kd nm (nI j) (nI c) N1 F N3 = (nI o, g, f1, 0, b1, a1, 0, m1) := by rw [y_X1_readLine_s, act_v h.kr, if_pos c12, lt1_v, if_neg (show ¬ (5 : Int32) = (-1) by decide), if_neg (show ¬ (5 : Int32) = 7 by decide), if_neg (show ¬ (5 : Int32) = 6 by decide), if_pos (show nI o < (40 : Int32) from lt40 ho40), ga, lt5_t, lt1_v, e3, lt8_t, if_pos rfl, isBroken1 hg, lt1_v, if_neg oz]
        have qr : y_X12_readBookLine (nI n) (nI lm) to fr kd' nm' sg ft pl wd td (nI o) now M G = (0, t1, f1, q1, n1, s1, g, f1, w1, t') := by rw [y_X12_readBookLine_s, isWord_v12, if_pos c12, lt1_v, if_neg oz, isWord_v13, if_neg n13, lt1_v, if_pos rfl, isWord_v14, if_neg n14, lt1_v, if_pos rfl, if_neg (show ¬ nI o = (40 : Int32) from nI_ne (b := 40) (by omega) (by omega) (by omega)), gg, lt6_t, z2, w2_, lt1_v, e4, lt10_t, if_pos rfl]
        exact Or.inr ⟨g, f1, hg, ⟨_, _, _, _, qc⟩, _, _, _, _, _, _, _, qr⟩
    · have e40 : o = 40 := by omega
      subst e40
      have qc : y_X1_readLine (nI 40) (nI n) 0 fa lt (nI lm) bh av kd nm (nI j) (nI c) N1 F N3 = (nI 40, 4, fr, 0, bh, av, 0, nm) := by rw [y_X1_readLine_s, act_v h.kr, if_pos c12, lt1_v, if_neg (show ¬ (5 : Int32) = (-1) by decide), if_neg (show ¬ (5 : Int32) = 7 by decide), if_neg (show ¬ (5 : Int32) = 6 by decide), if_neg (show ¬ nI 40 < (40 : Int32) by decide), fail0, lt4_t, lt1_v, lt1_v, isBroken1 h4, lt1_v, if_neg oz, ite_self, e0]
      have qr : y_X12_readBookLine (nI n) (nI lm) to fr kd' nm' sg ft pl wd td (nI 40) now M G = (0, to, fr, kd', nm', sg, 4, fr, wd, td) := by rw [y_X12_readBookLine_s, isWord_v12, if_pos c12, lt1_v, if_neg oz, isWord_v13, if_neg n13, lt1_v, if_pos rfl, isWord_v14, if_neg n14, lt1_v, if_pos rfl, if_pos (show nI 40 = (40 : Int32) from rfl), bad_v, if_neg nk1, lt2_t]
      exact Or.inr ⟨4, fr, h4, ⟨_, _, _, _, qc⟩, _, _, _, _, _, _, _, qr⟩
  by_cases c13 : kd' = 2 ∧ wd = wv 13
  · have n14 : ¬ (kd' = 2 ∧ wd = wv 14) := (fun z => absurd (wv_inj 14 (by decide) 13 (by decide) (z.2.symm.trans c13.2)) (by decide))
    have hk : kd = 2 := by
      rcases h.kr with ⟨x, -, -⟩ | ⟨-, y⟩
      · exact x
      · exact absurd c13.1 y
    have nk1 : ¬ kd' = 1 := by rw [c13.1]; decide
    obtain ⟨p1, l1, b1, a1, k1, m1, t1, f1, q1, n1, s1, w1, -, -, g3, ga, gg, -, -⟩ := op_go hn hl ha h hk
    by_cases ho40 : o < 40
    · rcases named_c hn hl ha fa ft pl td hc nr3 g3 with ⟨p2, l2, b2, a2, k2, m2, t2, f2, q2, n2, s2, w2, k, d3, hk', e3, e4⟩ | ⟨g, t', hg, e3, e4⟩
      · have km : ¬ nI k = (-1) := nI_m1 (by omega)
        rcases op_end hn hl ha fa ft pl d3 with ⟨p9, l9, b9, a9, k9, m9, t9, f9, q9, n9, s9, v9, -, -, u3, uc, ur⟩ | ⟨g, hg, uc, ur⟩
        · have qc : y_X1_readLine (nI o) (nI n) 0 fa lt (nI lm) bh av kd nm (nI j) (nI c) N1 F N3 = (nI (o + 1), 0, fa, l9, b9, a9, k9, m9) := by rw [y_X1_readLine_s, act_v h.kr, if_neg c12, if_pos c13, lt1_v, if_neg (show ¬ (6 : Int32) = (-1) by decide), if_neg (show ¬ (6 : Int32) = 7 by decide), if_pos rfl, if_pos (show nI o < (40 : Int32) from lt40 ho40), ga, lt5_t, lt1_v, e3, lt8_t, if_neg km, uc, lt7_t, isBroken0, lt1_v, if_pos rfl, lt1_v, nI_1]
          have qr : y_X12_readBookLine (nI n) (nI lm) to fr kd' nm' sg ft pl wd td (nI o) now M G = (1, t9, f9, q9, n9, s9, ft, pl, v9, nI k) := by rw [y_X12_readBookLine_s, isWord_v12, if_neg c12, lt1_v, if_pos rfl, isWord_v13, if_pos c13, lt1_v, if_neg oz, isWord_v14, if_neg n14, lt1_v, if_pos rfl, if_neg (show ¬ nI o = (40 : Int32) from nI_ne (b := 40) (by omega) (by omega) (by omega)), gg, lt6_t, z2, w2_, lt1_v, e4, lt10_t, if_neg oz, ur, lt9_t, if_neg oz]
          exact Or.inl ⟨p9, l9, b9, a9, k9, m9, t9, f9, q9, n9, s9, v9, _, ho40, u3, qc, qr⟩
        · have qc : y_X1_readLine (nI o) (nI n) 0 fa lt (nI lm) bh av kd nm (nI j) (nI c) N1 F N3 = (nI o, g, f2, 0, b2, a2, 0, m2) := by rw [y_X1_readLine_s, act_v h.kr, if_neg c12, if_pos c13, lt1_v, if_neg (show ¬ (6 : Int32) = (-1) by decide), if_neg (show ¬ (6 : Int32) = 7 by decide), if_pos rfl, if_pos (show nI o < (40 : Int32) from lt40 ho40), ga, lt5_t, lt1_v, e3, lt8_t, if_neg km, uc, lt7_t, isBroken1 hg, lt1_v, if_neg oz]
          have qr : y_X12_readBookLine (nI n) (nI lm) to fr kd' nm' sg ft pl wd td (nI o) now M G = (0, t2, f2, q2, n2, s2, g, f2, w2, nI k) := by rw [y_X12_readBookLine_s, isWord_v12, if_neg c12, lt1_v, if_pos rfl, isWord_v13, if_pos c13, lt1_v, if_neg oz, isWord_v14, if_neg n14, lt1_v, if_pos rfl, if_neg (show ¬ nI o = (40 : Int32) from nI_ne (b := 40) (by omega) (by omega) (by omega)), gg, lt6_t, z2, w2_, lt1_v, e4, lt10_t, if_neg oz, ur, lt9_t, if_pos rfl]
          exact Or.inr ⟨g, f2, hg, ⟨_, _, _, _, qc⟩, _, _, _, _, _, _, _, qr⟩
      · have qc : y_X1_readLine (nI o) (nI n) 0 fa lt (nI lm) bh av kd nm (nI j) (nI c) N1 F N3 = (nI o, g, f1, 0, b1, a1, 0, m1) := by rw [y_X1_readLine_s, act_v h.kr, if_neg c12, if_pos c13, lt1_v, if_neg (show ¬ (6 : Int32) = (-1) by decide), if_neg (show ¬ (6 : Int32) = 7 by decide), if_pos rfl, if_pos (show nI o < (40 : Int32) from lt40 ho40), ga, lt5_t, lt1_v, e3, lt8_t, if_pos rfl, isBroken1 hg, lt1_v, if_neg oz]
        have qr : y_X12_readBookLine (nI n) (nI lm) to fr kd' nm' sg ft pl wd td (nI o) now M G = (0, t1, f1, q1, n1, s1, g, f1, w1, t') := by rw [y_X12_readBookLine_s, isWord_v12, if_neg c12, lt1_v, if_pos rfl, isWord_v13, if_pos c13, lt1_v, if_neg oz, isWord_v14, if_neg n14, lt1_v, if_pos rfl, if_neg (show ¬ nI o = (40 : Int32) from nI_ne (b := 40) (by omega) (by omega) (by omega)), gg, lt6_t, z2, w2_, lt1_v, e4, lt10_t, if_pos rfl]
        exact Or.inr ⟨g, f1, hg, ⟨_, _, _, _, qc⟩, _, _, _, _, _, _, _, qr⟩
    · have e40 : o = 40 := by omega
      subst e40
      have qc : y_X1_readLine (nI 40) (nI n) 0 fa lt (nI lm) bh av kd nm (nI j) (nI c) N1 F N3 = (nI 40, 4, fr, 0, bh, av, 0, nm) := by rw [y_X1_readLine_s, act_v h.kr, if_neg c12, if_pos c13, lt1_v, if_neg (show ¬ (6 : Int32) = (-1) by decide), if_neg (show ¬ (6 : Int32) = 7 by decide), if_pos rfl, if_neg (show ¬ nI 40 < (40 : Int32) by decide), fail0, lt4_t, lt1_v, lt1_v, isBroken1 h4, lt1_v, if_neg oz, ite_self, e0]
      have qr : y_X12_readBookLine (nI n) (nI lm) to fr kd' nm' sg ft pl wd td (nI 40) now M G = (0, to, fr, kd', nm', sg, 4, fr, wd, td) := by rw [y_X12_readBookLine_s, isWord_v12, if_neg c12, lt1_v, if_pos rfl, isWord_v13, if_pos c13, lt1_v, if_neg oz, isWord_v14, if_neg n14, lt1_v, if_pos rfl, if_pos (show nI 40 = (40 : Int32) from rfl), bad_v, if_neg nk1, lt2_t]
      exact Or.inr ⟨4, fr, h4, ⟨_, _, _, _, qc⟩, _, _, _, _, _, _, _, qr⟩
  by_cases c14 : kd' = 2 ∧ wd = wv 14
  · have hk : kd = 2 := by
      rcases h.kr with ⟨x, -, -⟩ | ⟨-, y⟩
      · exact x
      · exact absurd c14.1 y
    have nk1 : ¬ kd' = 1 := by rw [c14.1]; decide
    obtain ⟨p1, l1, b1, a1, k1, m1, t1, f1, q1, n1, s1, w1, -, -, g3, ga, gg, -, -⟩ := op_go hn hl ha h hk
    by_cases ho40 : o < 40
    · rcases op_num hn hl ha fa ft pl td 1 60 g3 with ⟨p2, v, l2, b2, a2, k2, m2, t2, f2, q2, n2, s2, w2, -, -, -, -, d3, e3, e4⟩ | ⟨g, hg, e3, e4⟩
      · rcases op_end hn hl ha fa ft pl d3 with ⟨p9, l9, b9, a9, k9, m9, t9, f9, q9, n9, s9, v9, -, -, u3, uc, ur⟩ | ⟨g, hg, uc, ur⟩
        · have qc : y_X1_readLine (nI o) (nI n) 0 fa lt (nI lm) bh av kd nm (nI j) (nI c) N1 F N3 = (nI (o + 1), 0, fa, l9, b9, a9, k9, m9) := by rw [y_X1_readLine_s, act_v h.kr, if_neg c12, if_neg c13, if_pos c14, lt1_v, if_neg (show ¬ (7 : Int32) = (-1) by decide), if_pos rfl, if_pos (show nI o < (40 : Int32) from lt40 ho40), ga, lt5_t, e3, lt8_t, uc, lt7_t, isBroken0, lt1_v, if_pos rfl, lt1_v, nI_1]
          have qr : y_X12_readBookLine (nI n) (nI lm) to fr kd' nm' sg ft pl wd td (nI o) now M G = (1, t9, f9, q9, n9, s9, ft, pl, v9, v) := by rw [y_X12_readBookLine_s, isWord_v12, if_neg c12, lt1_v, if_pos rfl, isWord_v13, if_neg c13, lt1_v, if_pos rfl, isWord_v14, if_pos c14, lt1_v, if_neg oz, if_neg (show ¬ nI o = (40 : Int32) from nI_ne (b := 40) (by omega) (by omega) (by omega)), gg, lt6_t, e4, lt10_t, if_neg oz, ur, lt9_t, if_neg oz]
          exact Or.inl ⟨p9, l9, b9, a9, k9, m9, t9, f9, q9, n9, s9, v9, _, ho40, u3, qc, qr⟩
        · have qc : y_X1_readLine (nI o) (nI n) 0 fa lt (nI lm) bh av kd nm (nI j) (nI c) N1 F N3 = (nI o, g, f2, 0, b2, a2, 0, m2) := by rw [y_X1_readLine_s, act_v h.kr, if_neg c12, if_neg c13, if_pos c14, lt1_v, if_neg (show ¬ (7 : Int32) = (-1) by decide), if_pos rfl, if_pos (show nI o < (40 : Int32) from lt40 ho40), ga, lt5_t, e3, lt8_t, uc, lt7_t, isBroken1 hg, lt1_v, if_neg oz]
          have qr : y_X12_readBookLine (nI n) (nI lm) to fr kd' nm' sg ft pl wd td (nI o) now M G = (0, t2, f2, q2, n2, s2, g, f2, w2, v) := by rw [y_X12_readBookLine_s, isWord_v12, if_neg c12, lt1_v, if_pos rfl, isWord_v13, if_neg c13, lt1_v, if_pos rfl, isWord_v14, if_pos c14, lt1_v, if_neg oz, if_neg (show ¬ nI o = (40 : Int32) from nI_ne (b := 40) (by omega) (by omega) (by omega)), gg, lt6_t, e4, lt10_t, if_neg oz, ur, lt9_t, if_pos rfl]
          exact Or.inr ⟨g, f2, hg, ⟨_, _, _, _, qc⟩, _, _, _, _, _, _, _, qr⟩
      · have qc : y_X1_readLine (nI o) (nI n) 0 fa lt (nI lm) bh av kd nm (nI j) (nI c) N1 F N3 = (nI o, g, f1, 0, b1, a1, 0, m1) := by rw [y_X1_readLine_s, act_v h.kr, if_neg c12, if_neg c13, if_pos c14, lt1_v, if_neg (show ¬ (7 : Int32) = (-1) by decide), if_pos rfl, if_pos (show nI o < (40 : Int32) from lt40 ho40), ga, lt5_t, e3, lt8_t, sign1 hg, lt7_t, isBroken1 hg, lt1_v, if_neg oz]
        have qr : y_X12_readBookLine (nI n) (nI lm) to fr kd' nm' sg ft pl wd td (nI o) now M G = (0, t1, f1, q1, n1, s1, g, f1, w1, td) := by rw [y_X12_readBookLine_s, isWord_v12, if_neg c12, lt1_v, if_pos rfl, isWord_v13, if_neg c13, lt1_v, if_pos rfl, isWord_v14, if_pos c14, lt1_v, if_neg oz, if_neg (show ¬ nI o = (40 : Int32) from nI_ne (b := 40) (by omega) (by omega) (by omega)), gg, lt6_t, e4, lt10_t, if_pos rfl]
        exact Or.inr ⟨g, f1, hg, ⟨_, _, _, _, qc⟩, _, _, _, _, _, _, _, qr⟩
    · have e40 : o = 40 := by omega
      subst e40
      have qc : y_X1_readLine (nI 40) (nI n) 0 fa lt (nI lm) bh av kd nm (nI j) (nI c) N1 F N3 = (nI 40, 4, fr, 0, bh, av, 0, nm) := by rw [y_X1_readLine_s, act_v h.kr, if_neg c12, if_neg c13, if_pos c14, lt1_v, if_neg (show ¬ (7 : Int32) = (-1) by decide), if_pos rfl, if_neg (show ¬ nI 40 < (40 : Int32) by decide), fail0, lt4_t, lt1_v, isBroken1 h4, lt1_v, if_neg oz, e0]
      have qr : y_X12_readBookLine (nI n) (nI lm) to fr kd' nm' sg ft pl wd td (nI 40) now M G = (0, to, fr, kd', nm', sg, 4, fr, wd, td) := by rw [y_X12_readBookLine_s, isWord_v12, if_neg c12, lt1_v, if_pos rfl, isWord_v13, if_neg c13, lt1_v, if_pos rfl, isWord_v14, if_pos c14, lt1_v, if_neg oz, if_pos (show nI 40 = (40 : Int32) from rfl), bad_v, if_neg nk1, lt2_t]
      exact Or.inr ⟨4, fr, h4, ⟨_, _, _, _, qc⟩, _, _, _, _, _, _, _, qr⟩
  have en := name_w h.kr
  by_cases c0 : y_X12_isName kd' wd = 0
  · have qc : y_X1_readLine (nI o) (nI n) 0 fa lt (nI lm) bh av kd nm (nI j) (nI c) N1 F N3 = (nI o, 1, fr, 0, bh, av, 0, nm) := by rw [y_X1_readLine_s, act_v h.kr, if_neg c12, if_neg c13, if_neg c14, lt1_v, if_pos rfl, lt1_v, en, c0, lt1_v, if_pos rfl, fail0, lt4_t, tjaB oz, lt8_t, if_pos rfl, isBroken1 oz, lt1_v, if_neg oz, e0]
    have qr : y_X12_readBookLine (nI n) (nI lm) to fr kd' nm' sg ft pl wd td (nI o) now M G = (0, to, fr, kd', nm', sg, 1, fr, wd, td) := by rw [y_X12_readBookLine_s, isWord_v12, if_neg c12, lt1_v, if_pos rfl, isWord_v13, if_neg c13, lt1_v, if_pos rfl, isWord_v14, if_neg c14, lt1_v, if_pos rfl, c0, lt1_v, if_pos rfl, bad_v, ite_self, lt2_t]
    exact Or.inr ⟨1, fr, oz, ⟨_, _, _, _, qc⟩, _, _, _, _, _, _, _, qr⟩
  have hk : kd = 2 := name_k (by rw [en]; exact c0)
  rcases h.kr with ⟨-, k2, k3⟩ | ⟨k1, -⟩
  rotate_left
  · exact absurd hk k1
  have nk1 : ¬ kd' = 1 := by rw [k2]; decide
  have qq := find10 k3 hj nr1
  rcases place10 (L := lt) (N := N1) hj with e | ⟨k, hk', e⟩
  · have qc : y_X1_readLine (nI o) (nI n) 0 fa lt (nI lm) bh av kd nm (nI j) (nI c) N1 F N3 = (nI o, 3, fr, 0, bh, av, 0, nm) := by rw [y_X1_readLine_s, act_v h.kr, if_neg c12, if_neg c13, if_neg c14, lt1_v, if_pos rfl, jn_v, e, lt1_v, en, lt1_v, if_neg c0, if_pos rfl, fail0, lt4_t, tjaB h3, lt8_t, if_pos rfl, isBroken1 h3, lt1_v, if_neg oz, e0]
    have qr : y_X12_readBookLine (nI n) (nI lm) to fr kd' nm' sg ft pl wd td (nI o) now M G = (0, to, fr, kd', nm', sg, 3, fr, wd, td) := by rw [y_X12_readBookLine_s, isWord_v12, if_neg c12, lt1_v, if_pos rfl, isWord_v13, if_neg c13, lt1_v, if_pos rfl, isWord_v14, if_neg c14, lt1_v, if_pos rfl, lt1_v, if_neg c0, z0, w0, lt1_v, ← qq, e, lt1_v, if_pos rfl, bad_v, if_neg nk1, lt2_t]
    exact Or.inr ⟨3, fr, h3, ⟨_, _, _, _, qc⟩, _, _, _, _, _, _, _, qr⟩
  have km : ¬ nI k = (-1) := nI_m1 (by omega)
  obtain ⟨p1, l1, b1, a1, k1, m1, t1, f1, q1, n1, s1, w1, -, -, g3, ga, gg, -, -⟩ := op_go hn hl ha h hk
  by_cases ho40 : o < 40
  · rcases does hn hl ha fa ft pl g3 with ⟨p2, l2, b2, a2, k2, m2, t2, f2, q2, n2, s2, w2, k', d3, hk2, e3, e4⟩ | ⟨e3, e4⟩
    · have km' : ¬ nI k' = (-1) := nI_m1 (by omega)
      rcases op_end hn hl ha fa ft pl d3 with ⟨p9, l9, b9, a9, k9, m9, t9, f9, q9, n9, s9, v9, -, -, u3, uc, ur⟩ | ⟨g, hg, uc, ur⟩
      · have qc : y_X1_readLine (nI o) (nI n) 0 fa lt (nI lm) bh av kd nm (nI j) (nI c) N1 F N3 = (nI (o + 1), 0, fa, l9, b9, a9, k9, m9) := by rw [y_X1_readLine_s, act_v h.kr, if_neg c12, if_neg c13, if_neg c14, lt1_v, if_pos rfl, jn_v, e, lt1_v, en, lt1_v, if_neg c0, if_neg km, if_pos (show nI o < (40 : Int32) from lt40 ho40), ga, lt5_t, e3, lt8_t, if_neg km', uc, lt7_t, isBroken0, lt1_v, if_pos rfl, lt1_v, nI_1]
        have qr : y_X12_readBookLine (nI n) (nI lm) to fr kd' nm' sg ft pl wd td (nI o) now M G = (1, t9, f9, q9, n9, s9, ft, pl, v9, td) := by rw [y_X12_readBookLine_s, isWord_v12, if_neg c12, lt1_v, if_pos rfl, isWord_v13, if_neg c13, lt1_v, if_pos rfl, isWord_v14, if_neg c14, lt1_v, if_pos rfl, lt1_v, if_neg c0, z0, w0, lt1_v, ← qq, e, lt1_v, if_neg km, if_neg (show ¬ nI o = (40 : Int32) from nI_ne (b := 40) (by omega) (by omega) (by omega)), lt1_v, gg, lt6_t, e4, lt9_t, if_pos rfl, ur, lt9_t, if_neg oz]
        exact Or.inl ⟨p9, l9, b9, a9, k9, m9, t9, f9, q9, n9, s9, v9, _, ho40, u3, qc, qr⟩
      · have qc : y_X1_readLine (nI o) (nI n) 0 fa lt (nI lm) bh av kd nm (nI j) (nI c) N1 F N3 = (nI o, g, f2, 0, b2, a2, 0, m2) := by rw [y_X1_readLine_s, act_v h.kr, if_neg c12, if_neg c13, if_neg c14, lt1_v, if_pos rfl, jn_v, e, lt1_v, en, lt1_v, if_neg c0, if_neg km, if_pos (show nI o < (40 : Int32) from lt40 ho40), ga, lt5_t, e3, lt8_t, if_neg km', uc, lt7_t, isBroken1 hg, lt1_v, if_neg oz]
        have qr : y_X12_readBookLine (nI n) (nI lm) to fr kd' nm' sg ft pl wd td (nI o) now M G = (0, t2, f2, q2, n2, s2, g, f2, w2, td) := by rw [y_X12_readBookLine_s, isWord_v12, if_neg c12, lt1_v, if_pos rfl, isWord_v13, if_neg c13, lt1_v, if_pos rfl, isWord_v14, if_neg c14, lt1_v, if_pos rfl, lt1_v, if_neg c0, z0, w0, lt1_v, ← qq, e, lt1_v, if_neg km, if_neg (show ¬ nI o = (40 : Int32) from nI_ne (b := 40) (by omega) (by omega) (by omega)), lt1_v, gg, lt6_t, e4, lt9_t, if_pos rfl, ur, lt9_t, if_pos rfl]
        exact Or.inr ⟨g, f2, hg, ⟨_, _, _, _, qc⟩, _, _, _, _, _, _, _, qr⟩
    · have qc : y_X1_readLine (nI o) (nI n) 0 fa lt (nI lm) bh av kd nm (nI j) (nI c) N1 F N3 = (nI o, 1, f1, 0, b1, a1, 0, m1) := by rw [y_X1_readLine_s, act_v h.kr, if_neg c12, if_neg c13, if_neg c14, lt1_v, if_pos rfl, jn_v, e, lt1_v, en, lt1_v, if_neg c0, if_neg km, if_pos (show nI o < (40 : Int32) from lt40 ho40), ga, lt5_t, e3, lt8_t, if_pos rfl, isBroken1 oz, lt1_v, if_neg oz]
      have qr : y_X12_readBookLine (nI n) (nI lm) to fr kd' nm' sg ft pl wd td (nI o) now M G = (0, t1, f1, q1, n1, s1, 1, f1, w1, td) := by rw [y_X12_readBookLine_s, isWord_v12, if_neg c12, lt1_v, if_pos rfl, isWord_v13, if_neg c13, lt1_v, if_pos rfl, isWord_v14, if_neg c14, lt1_v, if_pos rfl, lt1_v, if_neg c0, z0, w0, lt1_v, ← qq, e, lt1_v, if_neg km, if_neg (show ¬ nI o = (40 : Int32) from nI_ne (b := 40) (by omega) (by omega) (by omega)), lt1_v, gg, lt6_t, e4, lt9_t, if_neg zo]
      exact Or.inr ⟨1, f1, oz, ⟨_, _, _, _, qc⟩, _, _, _, _, _, _, _, qr⟩
  · have e40 : o = 40 := by omega
    subst e40
    have qc : y_X1_readLine (nI 40) (nI n) 0 fa lt (nI lm) bh av kd nm (nI j) (nI c) N1 F N3 = (nI 40, 4, fr, 0, bh, av, 0, nm) := by rw [y_X1_readLine_s, act_v h.kr, if_neg c12, if_neg c13, if_neg c14, lt1_v, if_pos rfl, jn_v, e, lt1_v, en, lt1_v, if_neg c0, if_neg km, if_neg (show ¬ nI 40 < (40 : Int32) by decide), fail0, lt4_t, tjaB h4, lt8_t, if_pos rfl, isBroken1 h4, lt1_v, if_neg oz, e0]
    have qr : y_X12_readBookLine (nI n) (nI lm) to fr kd' nm' sg ft pl wd td (nI 40) now M G = (0, to, fr, kd', nm', sg, 4, fr, wd, td) := by rw [y_X12_readBookLine_s, isWord_v12, if_neg c12, lt1_v, if_pos rfl, isWord_v13, if_neg c13, lt1_v, if_pos rfl, isWord_v14, if_neg c14, lt1_v, if_pos rfl, lt1_v, if_neg c0, z0, w0, lt1_v, ← qq, e, lt1_v, if_neg km, if_pos (show nI 40 = (40 : Int32) from rfl), bad_v, if_neg nk1, lt2_t]
    exact Or.inr ⟨4, fr, h4, ⟨_, _, _, _, qc⟩, _, _, _, _, _, _, _, qr⟩
