theorem mul4a : ∀ k, k < 10 → (4 : Int32) * nI k = nI (4 * k) := by decide
theorem mul4b : ∀ k, k < 10 → nI k * (4 : Int32) = nI (4 * k) := by decide
theorem tuned_line {n p lm : Nat} (hn : n ≤ 940) (hl : lm ≤ 940) {F G : Nat → Int32} (ha : ∀ j, j < n → F j = G j) {lt : Int64} {bh av kd nm to fr kd' nm' sg : Int32} {wd : Int64} (fa ft pl td : Int32) {tn : Nat → Int32} {j f c : Nat} {N1 N2 N3 M : Nat → Int64} {rd : Nat → Int32} (hN : NM j f c N1 N2 N3 M) (r0 : rd 0 = nI j) (r1 : rd 1 = nI f) (r2 : rd 2 = nI c) (rt : ∀ k, k < 40 → tn k = rd (49 + k)) (h : TR n p lt bh av kd nm to fr kd' nm' sg wd) (hk : kd = 2) :
    (∃ (p9 : Nat) (l9 : Int64) (b9 a9 k9 m9 t9 f9 q9 n9 s9 : Int32) (w9 : Int64) (v1 td' : Int32) (x : Nat) (rd' : Nat → Int32) (t8 f8 q8 n8 s8 : Int32) (w8 : Int64), p + 2 ≤ p9 ∧ p9 ≤ n ∧ TR n p9 l9 b9 a9 k9 m9 t9 f9 q9 n9 s9 w9 ∧ x < 40 ∧ y_X2_readTuned (nI n) 0 fa lt (nI lm) bh av kd nm F (nI j) (nI f) N1 N2 tn = (0, fa, l9, b9, a9, k9, m9, upd tn x v1) ∧ y_X12_readTuned (nI n) (nI lm) to nm' sg ft pl wd td G rd M = (1, t8, f8, q8, n8, s8, ft, pl, w8, td', rd') ∧ y_X12_readEnd (nI n) (nI lm) t8 f8 q8 n8 s8 ft pl w8 G = (1, t9, f9, q9, n9, s9, ft, pl, w9) ∧ rd' = upd rd (49 + x) v1) ∨ (∃ g P : Int32, ¬ g = 0 ∧ (∃ x0 x1 x2 x3 x4 x5, y_X2_readTuned (nI n) 0 fa lt (nI lm) bh av kd nm F (nI j) (nI f) N1 N2 tn = (g, P, x0, x1, x2, x3, x4, x5)) ∧ ((∃ y0 y1 y2 y3 y4 y5 y6 y7, y_X12_readTuned (nI n) (nI lm) to nm' sg ft pl wd td G rd M = (0, y0, y1, y2, y3, y4, g, P, y5, y6, y7)) ∨ (∃ y0 y1 y2 y3 y4 y5 y6 y7 t9 f9 q9 n9 s9 w9, y_X12_readTuned (nI n) (nI lm) to nm' sg ft pl wd td G rd M = (1, y0, y1, y2, y3, y4, ft, pl, y5, y6, y7) ∧ y_X12_readEnd (nI n) (nI lm) y0 y1 y2 y3 y4 ft pl y5 G = (0, t9, f9, q9, n9, s9, g, P, w9)))) := by
  have e0 := h.1
  have hj := hN.1
  have hf := hN.2.1
  have hc := hN.2.2.1
  have z0 : (0 : Int32).toNatClampNeg = 0 := by decide
  have z1 : (1 : Int32).toNatClampNeg = 1 := by decide
  have z2 : (2 : Int32).toNatClampNeg = 2 := by decide
  have z35 : (35 : Int32).toNatClampNeg = 35 := by decide
  have zj : (nI j).toNatClampNeg = j := nI_clamp (by omega)
  have zf : (nI f).toNatClampNeg = f := nI_clamp (by omega)
  have zc : (nI c).toNatClampNeg = c := nI_clamp (by omega)
  have hq : kd' = 2 := by
    rcases h.kr with ⟨-, b, -⟩ | ⟨a, -⟩
    · exact b
    · exact absurd hk a
  obtain ⟨p1, l1, b1, a1, k1, m1, t1, f1, q1, n1, s1, w1, g1, g2, g3, g4, g5, -, -⟩ := op_go hn hl ha h hk
  rcases isOne_j_v ft pl td hj hN.2.2.2.1 g3 with ⟨k, hk9, cn, en, ej⟩ | ⟨t, hc9, ej⟩
  · have hm : ¬ nI k = (-1) := nI_m1 (by omega)
    obtain ⟨p2, l2, b2, a2, k2, m2, t2, f2, q2, n2, s2, w2, x1, x2, x3, xc, xr⟩ := found_ok hn hl ha fa hm cn g3
    have z4_ : (4 : Int32) * nI k = nI (4 * k) := mul4a k (by omega)
    have z5_ : nI k * (4 : Int32) = nI (4 * k) := mul4b k (by omega)
    have z6_ : (49 : Int32) + nI (4 * k) = nI (49 + 4 * k) := nI_add 49 (4 * k)
    rcases isOne_f_v ft pl (nI k) hf hN.2.2.2.2.1 x3 with ⟨m, hm9, cn2, en2, er2⟩ | ⟨t2_, hc2, er2⟩
    · have hm2 : ¬ nI m = (-1) := nI_m1 (by omega)
      have z7_ : nI (49 + 4 * k) + nI m = nI (49 + (4 * k + m)) := by rw [nI_add, Nat.add_assoc]
      have z8_ : (nI (49 + (4 * k + m))).toNatClampNeg = 49 + (4 * k + m) := nI_clamp (by omega)
      have z9_ : nI (4 * k) + nI m = nI (4 * k + m) := nI_add _ _
      have z10_ : (nI (4 * k + m)).toNatClampNeg = 4 * k + m := nI_clamp (by omega)
      have rt9 := rt (4 * k + m) (by omega)
      by_cases c9 : rd (49 + (4 * k + m)) = (-1)
      · have en3 : y_X2_floorNotTunedFor (nI k) l2 (nI f) N2 tn = nI m := by rw [y_X2_floorNotTunedFor_s]; simp only [lt1, en2, if_neg hm, if_neg hm2, z5_, z9_, z10_, rt9, if_pos c9]
        obtain ⟨p3, l3, b3, a3, k3, m3, t3, f3, q3, n3, s3, w3, y1, y2, y3, yc, yr⟩ := found_ok hn hl ha fa hm2 cn2 x3
        rcases op_num hn hl ha fa ft pl (nI m) 0 60 y3 with ⟨p4, v4, l4, b4, a4, k4, m4, t4, f4, q4, n4, s4, w4, da4, db4, dlo4, dhi4, d4, cc4, rr4⟩ | ⟨g, hg, ec, er⟩
        rotate_left
        · skip
          have qc : y_X2_readTuned (nI n) 0 fa lt (nI lm) bh av kd nm F (nI j) (nI f) N1 N2 tn = (g, f3, 0, b3, a3, 0, m3, tn) := by rw [y_X2_readTuned_s]; simp only [lt1, lt2_t, lt3_t, lt4_t, lt5_t, lt6_t, lt7_t, lt8_t, lt9_t, lt10_t, lt11_t, lt12_t, lt13_t, if_pos, if_neg oz, if_neg zo, isBroken0, fail0, if1, nI_1, g4, en, xc, if_neg hm, en3, yc, if_neg hm2, z5_, z9_, z10_, ec, num1 hg, sign1 hg, isBroken1 hg, new1 hg, found1 hg]
          have qr : y_X12_readTuned (nI n) (nI lm) to nm' sg ft pl wd td G rd M = (0, t3, f3, q3, n3, s3, g, f3, w3, nI m, rd) := by rw [y_X12_readTuned_s, g5, lt6_t, z0, r0, lt1_v, ej, lt4_t, if_neg oz, lt1_v, lt1_v, xr, lt6_t, z1, r1, lt1_v, er2, lt4_t, if_neg oz, lt1_v, lt1_v, z4_, z6_, z7_, z8_, if_pos c9, yr, lt6_t, er, lt10_t, if_pos rfl, put3z, lt2_t]
          exact Or.inr ⟨g, _, hg, ⟨_, _, _, _, _, _, qc⟩, Or.inl ⟨_, _, _, _, _, _, _, _, qr⟩⟩
        · skip
          rcases op_end hn hl ha fa ft pl d4 with ⟨p7, l7, b7, a7, k7, m7, t7, f7, q7, n7, s7, w7, u1, u2, u3, uc, ur⟩ | ⟨g, hg, uc, ur⟩
          · have qc : y_X2_readTuned (nI n) 0 fa lt (nI lm) bh av kd nm F (nI j) (nI f) N1 N2 tn = (0, fa, l7, b7, a7, k7, m7, upd tn (4 * k + m) v4) := by rw [y_X2_readTuned_s]; simp only [lt1, lt2_t, lt3_t, lt4_t, lt5_t, lt6_t, lt7_t, lt8_t, lt9_t, lt10_t, lt11_t, lt12_t, lt13_t, if_pos, if_neg oz, if_neg zo, isBroken0, fail0, if1, nI_1, g4, en, xc, if_neg hm, en3, yc, if_neg hm2, z5_, z9_, z10_, cc4, uc]
            have qr : y_X12_readTuned (nI n) (nI lm) to nm' sg ft pl wd td G rd M = (1, t4, f4, q4, n4, s4, ft, pl, w4, v4, (upd rd (49 + (4 * k + m)) v4)) := by rw [y_X12_readTuned_s, g5, lt6_t, z0, r0, lt1_v, ej, lt4_t, if_neg oz, lt1_v, lt1_v, xr, lt6_t, z1, r1, lt1_v, er2, lt4_t, if_neg oz, lt1_v, lt1_v, z4_, z6_, z7_, z8_, if_pos c9, yr, lt6_t, rr4, lt10_t, if_neg oz, put3o, lt2_t, z8_]
            exact Or.inl ⟨p7, l7, b7, a7, k7, m7, t7, f7, q7, n7, s7, w7, v4, _, 4 * k + m, _, t4, f4, q4, n4, s4, w4, by omega, u2, u3, by omega, qc, qr, ur, rfl⟩
          · skip
            have qc : y_X2_readTuned (nI n) 0 fa lt (nI lm) bh av kd nm F (nI j) (nI f) N1 N2 tn = (g, f4, 0, b4, a4, 0, m4, tn) := by rw [y_X2_readTuned_s]; simp only [lt1, lt2_t, lt3_t, lt4_t, lt5_t, lt6_t, lt7_t, lt8_t, lt9_t, lt10_t, lt11_t, lt12_t, lt13_t, if_pos, if_neg oz, if_neg zo, isBroken0, fail0, if1, nI_1, g4, en, xc, if_neg hm, en3, yc, if_neg hm2, z5_, z9_, z10_, cc4, uc, isBroken1 hg]
            have qr : y_X12_readTuned (nI n) (nI lm) to nm' sg ft pl wd td G rd M = (1, t4, f4, q4, n4, s4, ft, pl, w4, v4, (upd rd (49 + (4 * k + m)) v4)) := by rw [y_X12_readTuned_s, g5, lt6_t, z0, r0, lt1_v, ej, lt4_t, if_neg oz, lt1_v, lt1_v, xr, lt6_t, z1, r1, lt1_v, er2, lt4_t, if_neg oz, lt1_v, lt1_v, z4_, z6_, z7_, z8_, if_pos c9, yr, lt6_t, rr4, lt10_t, if_neg oz, put3o, lt2_t, z8_]
            exact Or.inr ⟨g, _, hg, ⟨_, _, _, _, _, _, qc⟩, Or.inr ⟨_, _, _, _, _, _, _, _, _, _, _, _, _, _, qr, ur⟩⟩
      · have en3 : y_X2_floorNotTunedFor (nI k) l2 (nI f) N2 tn = (-1) := by rw [y_X2_floorNotTunedFor_s]; simp only [lt1, en2, if_neg hm, if_neg hm2, z5_, z9_, z10_, rt9, if_neg c9]
        have fb := found_bad (n := n) (lm := lm) (F := F) (x := (-1)) fa x3 (Or.inr rfl)
        rw [if_neg cn2] at fb
        have h3 : ¬ (3 : Int32) = 0 := by decide
        have hq2 : q2 = 2 := by
          rcases x3.kr with ⟨-, b, -⟩ | ⟨a, -⟩
          · exact b
          · exact absurd (name_k (by rw [name_w x3.kr]; exact cn2)) a
        have hb : y_X12_bad 3 q2 = (0, 3) := by rw [bad_v, hq2, if_neg (by decide)]
        have qc : y_X2_readTuned (nI n) 0 fa lt (nI lm) bh av kd nm F (nI j) (nI f) N1 N2 tn = (3, f2, 0, b2, a2, 0, m2, tn) := by rw [y_X2_readTuned_s]; simp only [lt1, lt2_t, lt3_t, lt4_t, lt5_t, lt6_t, lt7_t, lt8_t, lt9_t, lt10_t, lt11_t, lt12_t, lt13_t, if_pos, if_neg oz, if_neg zo, isBroken0, fail0, if1, nI_1, g4, en, xc, if_neg hm, en3, fb, isBroken1 h3]
        have qr : y_X12_readTuned (nI n) (nI lm) to nm' sg ft pl wd td G rd M = (0, t2, f2, q2, n2, s2, 3, f2, w2, nI m, rd) := by rw [y_X12_readTuned_s, g5, lt6_t, z0, r0, lt1_v, ej, lt4_t, if_neg oz, lt1_v, lt1_v, xr, lt6_t, z1, r1, lt1_v, er2, lt4_t, if_neg oz, lt1_v, lt1_v, z4_, z6_, z7_, z8_, if_neg c9, hb, lt2_t]
        exact Or.inr ⟨3, _, h3, ⟨_, _, _, _, _, _, qc⟩, Or.inl ⟨_, _, _, _, _, _, _, _, qr⟩⟩
    · have hc3 : y_X12_isName q2 w2 = 0 ∨ y_X2_floorNotTunedFor (nI k) l2 (nI f) N2 tn = (-1) := by
        rcases hc2 with z | z
        · exact Or.inl z
        · exact Or.inr (by rw [y_X2_floorNotTunedFor_s]; simp only [lt1, z, if_pos, if_neg hm])
      have fb := found_bad (n := n) (lm := lm) (F := F) fa x3 hc3
      have hg : ¬ (if y_X12_isName q2 w2 = 0 then (1 : Int32) else 3) = 0 := by split <;> decide
      generalize (if y_X12_isName q2 w2 = 0 then (1 : Int32) else 3) = g at hg fb er2
      have qc : y_X2_readTuned (nI n) 0 fa lt (nI lm) bh av kd nm F (nI j) (nI f) N1 N2 tn = (g, f2, 0, b2, a2, 0, m2, tn) := by rw [y_X2_readTuned_s]; simp only [lt1, lt2_t, lt3_t, lt4_t, lt5_t, lt6_t, lt7_t, lt8_t, lt9_t, lt10_t, lt11_t, lt12_t, lt13_t, if_pos, if_neg oz, if_neg zo, isBroken0, fail0, if1, nI_1, g4, en, xc, if_neg hm, fb, isBroken1 hg]
      have qr : y_X12_readTuned (nI n) (nI lm) to nm' sg ft pl wd td G rd M = (0, t2, f2, q2, n2, s2, g, f2, w2, t2_, rd) := by rw [y_X12_readTuned_s, g5, lt6_t, z0, r0, lt1_v, ej, lt4_t, if_neg oz, lt1_v, lt1_v, xr, lt6_t, z1, r1, lt1_v, er2, lt4_t, if_pos rfl]
      exact Or.inr ⟨g, _, hg, ⟨_, _, _, _, _, _, qc⟩, Or.inl ⟨_, _, _, _, _, _, _, _, qr⟩⟩
  · have fb := found_bad (n := n) (lm := lm) (F := F) fa g3 hc9
    have hg : ¬ (if y_X12_isName q1 w1 = 0 then (1 : Int32) else 3) = 0 := by split <;> decide
    generalize (if y_X12_isName q1 w1 = 0 then (1 : Int32) else 3) = g at hg fb ej
    have qc : y_X2_readTuned (nI n) 0 fa lt (nI lm) bh av kd nm F (nI j) (nI f) N1 N2 tn = (g, f1, 0, b1, a1, 0, m1, tn) := by rw [y_X2_readTuned_s]; simp only [lt1, lt2_t, lt3_t, lt4_t, lt5_t, lt6_t, lt7_t, lt8_t, lt9_t, lt10_t, lt11_t, lt12_t, lt13_t, if_pos, if_neg oz, if_neg zo, isBroken0, fail0, if1, nI_1, g4, fb, isBroken1 hg, ite_self]
    have qr : y_X12_readTuned (nI n) (nI lm) to nm' sg ft pl wd td G rd M = (0, t1, f1, q1, n1, s1, g, f1, w1, t, rd) := by rw [y_X12_readTuned_s, g5, lt6_t, z0, r0, lt1_v, ej, lt4_t, if_pos rfl]
    exact Or.inr ⟨g, _, hg, ⟨_, _, _, _, _, _, qc⟩, Or.inl ⟨_, _, _, _, _, _, _, _, qr⟩⟩
