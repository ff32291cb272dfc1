theorem juror_line {n p lm : Nat} (hn : n ≤ 940) (hl : lm ≤ 940) {F G : Nat → Int32} (ha : ∀ j, j < n → F j = G j) {lt : Int64} {bh av kd nm to fr kd' nm' sg : Int32} {wd : Int64} (fa ft pl td : Int32) (sd : Int32) {pi le hd : Nat → Int32} {j f c : Nat} {N1 N2 N3 M : Nat → Int64} {rd : Nat → Int32} (hN : NM j f c N1 N2 N3 M) (r0 : rd 0 = nI j) (r1 : rd 1 = nI f) (r2 : rd 2 = nI c) (r35 : rd 35 = sd) (h : TR n p lt bh av kd nm to fr kd' nm' sg wd) (hk : kd = 2) :
    (∃ (p9 : Nat) (l9 : Int64) (b9 a9 k9 m9 t9 f9 q9 n9 s9 : Int32) (w9 : Int64) (L Wd : Int64) (v1 v2 v3 sd' td' : Int32) (rd' : Nat → Int32) (t8 f8 q8 n8 s8 : Int32) (w8 : Int64), p + 2 ≤ p9 ∧ p9 ≤ n ∧ TR n p9 l9 b9 a9 k9 m9 t9 f9 q9 n9 s9 w9 ∧ j < 10 ∧ wr L Wd ∧ y_X2_readJuror (nI j) (nI f) (nI c) sd (nI n) 0 fa lt (nI lm) bh av kd nm F N1 N2 N3 pi le hd = (nI (j + 1), sd', 0, fa, l9, b9, a9, k9, m9, vp_updL N1 j L, upd pi j v1, upd le j v2, upd hd j v3) ∧ y_X12_readJuror (nI n) (nI lm) to fr kd' nm' sg ft pl wd td rd G M = (1, t8, f8, q8, n8, s8, ft, pl, w8, td', rd', vp_updL M j Wd) ∧ y_X12_readEnd (nI n) (nI lm) t8 f8 q8 n8 s8 ft pl w8 G = (1, t9, f9, q9, n9, s9, ft, pl, w9) ∧ rd' 0 = nI (j + 1) ∧ rd' 35 = sd' ∧ rd' (5 + j) = v1 ∧ rd' (15 + j) = v2 ∧ rd' (25 + j) = v3 ∧ ∀ k, k ≠ 0 → k ≠ 35 → k ≠ 5 + j → k ≠ 15 + j → k ≠ 25 + j → rd' k = rd k) ∨ (∃ g P : Int32, ¬ g = 0 ∧ (∃ x0 x1 x2 x3 x4 x5 x6 x7 x8 x9 x10, y_X2_readJuror (nI j) (nI f) (nI c) sd (nI n) 0 fa lt (nI lm) bh av kd nm F N1 N2 N3 pi le hd = (x0, x1, g, P, x2, x3, x4, x5, x6, x7, x8, x9, x10)) ∧ ((∃ y0 y1 y2 y3 y4 y5 y6 y7 y8, y_X12_readJuror (nI n) (nI lm) to fr kd' nm' sg ft pl wd td rd G M = (0, y0, y1, y2, y3, y4, g, P, y5, y6, y7, y8)) ∨ (∃ y0 y1 y2 y3 y4 y5 y6 y7 y8 t9 f9 q9 n9 s9 w9, y_X12_readJuror (nI n) (nI lm) to fr kd' nm' sg ft pl wd td rd G M = (1, y0, y1, y2, y3, y4, ft, pl, y5, y6, y7, y8) ∧ y_X12_readEnd (nI n) (nI lm) y0 y1 y2 y3 y4 ft pl y5 G = (0, t9, f9, q9, n9, s9, g, P, w9)))) := by
  have e0 := h.1
  have hj := hN.1
  have hf := hN.2.1
  have hc := hN.2.2.1
  have z0 : (0 : Int32).toNatClampNeg = 0 := by decide
  have z1 : (1 : Int32).toNatClampNeg = 1 := by decide
  have z2 : (2 : Int32).toNatClampNeg = 2 := by decide
  have z35 : (35 : Int32).toNatClampNeg = 35 := by decide
  have zj : (nI j).toNatClampNeg = j := nI_clamp (by omega)
  have zf : (nI f).toNatClampNeg = f := nI_clamp (by omega)
  have zc : (nI c).toNatClampNeg = c := nI_clamp (by omega)
  have hq : kd' = 2 := by
    rcases h.kr with ⟨-, b, -⟩ | ⟨a, -⟩
    · exact b
    · exact absurd hk a
  have o5 : ((5 : Int32) + nI j).toNatClampNeg = 5 + j := by rw [show (5 : Int32) + nI j = nI (5 + j) from nI_add 5 j]; exact nI_clamp (by omega)
  have o15 : ((15 : Int32) + nI j).toNatClampNeg = 15 + j := by rw [show (15 : Int32) + nI j = nI (15 + j) from nI_add 15 j]; exact nI_clamp (by omega)
  have o25 : ((25 : Int32) + nI j).toNatClampNeg = 25 + j := by rw [show (25 : Int32) + nI j = nI (25 + j) from nI_add 25 j]; exact nI_clamp (by omega)
  by_cases c0 : j < 10
  · have c0' : nI j < (10 : Int32) := (lt10_v (by omega)).mpr c0
    obtain ⟨p1, l1, b1, a1, k1, m1, t1, f1, q1, n1, s1, w1, g1, g2, g3, g4, g5, -, -⟩ := op_go hn hl ha h hk
    have ef : y_X12_readFirst_j (nI n) (nI lm) to fr kd' nm' sg ft pl wd rd G = (1, t1, f1, q1, n1, s1, ft, pl, w1) := first_j ft pl c0 r0 g5
    rcases op_new hn hl ha fa ft pl (nI j) hN r0 r1 r2 g3 with ⟨p2, l2, b2, a2, k2, m2, t2, f2, q2, n2, s2, w2, d1, d2, dw, d3, dt, dc, dr⟩ | ⟨g, hg, ec, er⟩
    rotate_left
    · rcases told_01 l1 (nI j) (nI f) (nI c) N1 N2 N3 with e | e
      · rw [e] at ec
        have qc : y_X2_readJuror (nI j) (nI f) (nI c) sd (nI n) 0 fa lt (nI lm) bh av kd nm F N1 N2 N3 pi le hd = (nI j, sd, g, f1, 0, b1, a1, 0, m1, N1, pi, le, hd) := by rw [y_X2_readJuror_s, if_pos c0', g4, lt5_t, e, lt1_v, if_neg zo, ec, lt8_t, num1 hg, lt8_t, num1 hg, lt8_t, num1 hg, lt8_t, if1, lt6_t, if_pos rfl, sign1 hg, lt7_t, isBroken1 hg, lt1_v, if_neg oz]
        have qr : y_X12_readJuror (nI n) (nI lm) to fr kd' nm' sg ft pl wd td rd G M = (0, t1, f1, q1, n1, s1, g, f1, w1, td, rd, M) := by rw [y_X12_readJuror_s, ef, lt9_t, if_pos rfl, z0, r0, lt1_v, er, lt10_t, if_pos rfl]
        exact Or.inr ⟨g, _, hg, ⟨_, _, _, _, _, _, _, _, _, _, _, qc⟩, Or.inl ⟨_, _, _, _, _, _, _, _, _, qr⟩⟩
      · rw [e] at ec
        have qc : y_X2_readJuror (nI j) (nI f) (nI c) sd (nI n) 0 fa lt (nI lm) bh av kd nm F N1 N2 N3 pi le hd = (nI j, sd, g, f1, 0, b1, a1, 0, m1, N1, pi, le, hd) := by rw [y_X2_readJuror_s, if_pos c0', g4, lt5_t, e, lt1_v, if_pos rfl, ec, lt8_t, num1 hg, lt8_t, num1 hg, lt8_t, num1 hg, lt8_t, if1, lt6_t, if_pos rfl, sign1 hg, lt7_t, isBroken1 hg, lt1_v, if_neg oz]
        have qr : y_X12_readJuror (nI n) (nI lm) to fr kd' nm' sg ft pl wd td rd G M = (0, t1, f1, q1, n1, s1, g, f1, w1, td, rd, M) := by rw [y_X12_readJuror_s, ef, lt9_t, if_pos rfl, z0, r0, lt1_v, er, lt10_t, if_pos rfl]
        exact Or.inr ⟨g, _, hg, ⟨_, _, _, _, _, _, _, _, _, _, _, qc⟩, Or.inl ⟨_, _, _, _, _, _, _, _, _, qr⟩⟩
    · rw [zj] at dr
      rcases op_num hn hl ha fa ft pl td 1 60 d3 with ⟨p3, v3, l3, b3, a3, k3, m3, t3, f3, q3, n3, s3, w3, da3, db3, dlo3, dhi3, d3, cc3, rr3⟩ | ⟨g, hg, ec, er⟩
      rotate_left
      · skip
        have qc : y_X2_readJuror (nI j) (nI f) (nI c) sd (nI n) 0 fa lt (nI lm) bh av kd nm F N1 N2 N3 pi le hd = (nI j, sd, g, f2, 0, b2, a2, 0, m2, N1, pi, le, hd) := by rw [y_X2_readJuror_s, if_pos c0', g4, lt5_t, dt, lt1_v, if_neg zo, dc, lt8_t, ec, lt8_t, num1 hg, lt8_t, num1 hg, lt8_t, if1, lt6_t, if_pos rfl, sign1 hg, lt7_t, isBroken1 hg, lt1_v, if_neg oz]
        have qr : y_X12_readJuror (nI n) (nI lm) to fr kd' nm' sg ft pl wd td rd G M = (0, t2, f2, q2, n2, s2, g, f2, w2, td, rd, vp_updL M j w1) := by rw [y_X12_readJuror_s, ef, lt9_t, if_pos rfl, z0, r0, lt1_v, dr, lt10_t, if_neg oz, lt1_v, er, lt10_t, if_pos rfl, put1z, lt2_t]
        exact Or.inr ⟨g, _, hg, ⟨_, _, _, _, _, _, _, _, _, _, _, qc⟩, Or.inl ⟨_, _, _, _, _, _, _, _, _, qr⟩⟩
      · skip
        rcases op_num hn hl ha fa ft pl v3 1 20 d3 with ⟨p4, v4, l4, b4, a4, k4, m4, t4, f4, q4, n4, s4, w4, da4, db4, dlo4, dhi4, d4, cc4, rr4⟩ | ⟨g, hg, ec, er⟩
        rotate_left
        · skip
          have qc : y_X2_readJuror (nI j) (nI f) (nI c) sd (nI n) 0 fa lt (nI lm) bh av kd nm F N1 N2 N3 pi le hd = (nI j, sd, g, f3, 0, b3, a3, 0, m3, N1, pi, le, hd) := by rw [y_X2_readJuror_s, if_pos c0', g4, lt5_t, dt, lt1_v, if_neg zo, dc, lt8_t, cc3, lt8_t, ec, lt8_t, num1 hg, lt8_t, if1, lt6_t, if_pos rfl, sign1 hg, lt7_t, isBroken1 hg, lt1_v, if_neg oz]
          have qr : y_X12_readJuror (nI n) (nI lm) to fr kd' nm' sg ft pl wd td rd G M = (0, t3, f3, q3, n3, s3, g, f3, w3, v3, (upd rd (5 + j) v3), vp_updL M j w1) := by rw [y_X12_readJuror_s, ef, lt9_t, if_pos rfl, z0, r0, lt1_v, dr, lt10_t, if_neg oz, lt1_v, rr3, lt10_t, if_neg oz, put1o, lt2_t, o5, lt1_v, er, lt10_t, if_pos rfl, put1z, lt2_t]
          exact Or.inr ⟨g, _, hg, ⟨_, _, _, _, _, _, _, _, _, _, _, qc⟩, Or.inl ⟨_, _, _, _, _, _, _, _, _, qr⟩⟩
        · skip
          rcases op_num hn hl ha fa ft pl v4 0 12 d4 with ⟨p5, v5, l5, b5, a5, k5, m5, t5, f5, q5, n5, s5, w5, da5, db5, dlo5, dhi5, d5, cc5, rr5⟩ | ⟨g, hg, ec, er⟩
          rotate_left
          · skip
            have qc : y_X2_readJuror (nI j) (nI f) (nI c) sd (nI n) 0 fa lt (nI lm) bh av kd nm F N1 N2 N3 pi le hd = (nI j, sd, g, f4, 0, b4, a4, 0, m4, N1, pi, le, hd) := by rw [y_X2_readJuror_s, if_pos c0', g4, lt5_t, dt, lt1_v, if_neg zo, dc, lt8_t, cc3, lt8_t, cc4, lt8_t, ec, lt8_t, if1, lt6_t, if_pos rfl, sign1 hg, lt7_t, isBroken1 hg, lt1_v, if_neg oz]
            have qr : y_X12_readJuror (nI n) (nI lm) to fr kd' nm' sg ft pl wd td rd G M = (0, t4, f4, q4, n4, s4, g, f4, w4, v4, (upd (upd rd (5 + j) v3) (15 + j) v4), vp_updL M j w1) := by rw [y_X12_readJuror_s, ef, lt9_t, if_pos rfl, z0, r0, lt1_v, dr, lt10_t, if_neg oz, lt1_v, rr3, lt10_t, if_neg oz, put1o, lt2_t, o5, lt1_v, rr4, lt10_t, if_neg oz, put1o, lt2_t, o15, lt1_v, er, lt10_t, if_pos rfl, put1z, lt2_t]
            exact Or.inr ⟨g, _, hg, ⟨_, _, _, _, _, _, _, _, _, _, _, qc⟩, Or.inl ⟨_, _, _, _, _, _, _, _, _, qr⟩⟩
          · skip
            rcases op_if hn hl ha d5 with ⟨p6, l6, b6, a6, k6, m6, t6, f6, q6, n6, s6, w6, i1, i2, i3, iw, ic, ir⟩ | ⟨iw, ic⟩
            · rcases op_end hn hl ha fa ft pl i3 with ⟨p7, l7, b7, a7, k7, m7, t7, f7, q7, n7, s7, w7, u1, u2, u3, uc, ur⟩ | ⟨g, hg, uc, ur⟩
              · skip
                have qc : y_X2_readJuror (nI j) (nI f) (nI c) sd (nI n) 0 fa lt (nI lm) bh av kd nm F N1 N2 N3 pi le hd = (nI (j + 1), (sd ||| ((1 : Int32) <<< (nI j &&& 31))), 0, fa, l7, b7, a7, k7, m7, vp_updL N1 j l1, upd pi j v3, upd le j v4, upd hd j v5) := by rw [y_X2_readJuror_s, if_pos c0', g4, lt5_t, dt, lt1_v, if_neg zo, dc, lt8_t, cc3, lt8_t, cc4, lt8_t, cc5, lt8_t, ic, lt6_t, if_neg oz, uc, lt7_t, isBroken0, lt1_v, if_pos rfl]; simp only [lt1, zj, nI_1]
                have qr : y_X12_readJuror (nI n) (nI lm) to fr kd' nm' sg ft pl wd td rd G M = (1, t6, f6, q6, n6, s6, ft, pl, w6, v5, (upd (upd (upd (upd (upd rd (5 + j) v3) (15 + j) v4) (25 + j) v5) 35 ((upd (upd (upd rd (5 + j) v3) (15 + j) v4) (25 + j) v5) 35 ||| ((1 : Int32) <<< (nI j &&& 31)))) 0 ((upd (upd (upd (upd rd (5 + j) v3) (15 + j) v4) (25 + j) v5) 35 ((upd (upd (upd rd (5 + j) v3) (15 + j) v4) (25 + j) v5) 35 ||| ((1 : Int32) <<< (nI j &&& 31)))) 0 + 1)), vp_updL M j w1) := by rw [y_X12_readJuror_s, ef, lt9_t, if_pos rfl, z0, r0, lt1_v, dr, lt10_t, if_neg oz, lt1_v, rr3, lt10_t, if_neg oz, put1o, lt2_t, o5, lt1_v, rr4, lt10_t, if_neg oz, put1o, lt2_t, o15, lt1_v, rr5, lt10_t, if_neg oz, put1o, lt2_t, o25, iw, lt1_v, if_neg oz]; rw [z35, lt1_v, lt1_v, lt1_v, lt1_v, ir, lt6_t, y_X12_readJuror_107_s, z0, lt1_v, lt1_v, lt1_v]
                refine Or.inl ⟨p7, l7, b7, a7, k7, m7, t7, f7, q7, n7, s7, w7, l1, w1, v3, v4, v5, _, _, _, t6, f6, q6, n6, s6, w6, by omega, u2, u3, c0, dw, qc, qr, ur, ?_, ?_, ?_, ?_, ?_, ?_⟩
                · rw [updI_s, updI_n (show (0 : Nat) ≠ 35 by omega), updI_n (show (0 : Nat) ≠ 25 + j by omega), updI_n (show (0 : Nat) ≠ 15 + j by omega), updI_n (show (0 : Nat) ≠ 5 + j by omega), r0, nI_1]
                · rw [updI_n (show (35 : Nat) ≠ 0 by omega), updI_s, updI_n (show (35 : Nat) ≠ 25 + j by omega), updI_n (show (35 : Nat) ≠ 15 + j by omega), updI_n (show (35 : Nat) ≠ 5 + j by omega), r35]
                · rw [updI_n (show (5 + j : Nat) ≠ 0 by omega), updI_n (show (5 + j : Nat) ≠ 35 by omega), updI_n (show (5 + j : Nat) ≠ 25 + j by omega), updI_n (show (5 + j : Nat) ≠ 15 + j by omega), updI_s]
                · rw [updI_n (show (15 + j : Nat) ≠ 0 by omega), updI_n (show (15 + j : Nat) ≠ 35 by omega), updI_n (show (15 + j : Nat) ≠ 25 + j by omega), updI_s]
                · rw [updI_n (show (25 + j : Nat) ≠ 0 by omega), updI_n (show (25 + j : Nat) ≠ 35 by omega), updI_s]
                · intro k h0 h35 h5 h15 h25
                  rw [updI_n h0, updI_n h35, updI_n h25, updI_n h15, updI_n h5]
              · skip
                have qc : y_X2_readJuror (nI j) (nI f) (nI c) sd (nI n) 0 fa lt (nI lm) bh av kd nm F N1 N2 N3 pi le hd = (nI j, sd, g, f6, 0, b6, a6, 0, m6, N1, pi, le, hd) := by rw [y_X2_readJuror_s, if_pos c0', g4, lt5_t, dt, lt1_v, if_neg zo, dc, lt8_t, cc3, lt8_t, cc4, lt8_t, cc5, lt8_t, ic, lt6_t, if_neg oz, uc, lt7_t, isBroken1 hg, lt1_v, if_neg oz]
                have qr : y_X12_readJuror (nI n) (nI lm) to fr kd' nm' sg ft pl wd td rd G M = (1, t6, f6, q6, n6, s6, ft, pl, w6, v5, (upd (upd (upd (upd (upd rd (5 + j) v3) (15 + j) v4) (25 + j) v5) 35 ((upd (upd (upd rd (5 + j) v3) (15 + j) v4) (25 + j) v5) 35 ||| ((1 : Int32) <<< (nI j &&& 31)))) 0 ((upd (upd (upd (upd rd (5 + j) v3) (15 + j) v4) (25 + j) v5) 35 ((upd (upd (upd rd (5 + j) v3) (15 + j) v4) (25 + j) v5) 35 ||| ((1 : Int32) <<< (nI j &&& 31)))) 0 + 1)), vp_updL M j w1) := by rw [y_X12_readJuror_s, ef, lt9_t, if_pos rfl, z0, r0, lt1_v, dr, lt10_t, if_neg oz, lt1_v, rr3, lt10_t, if_neg oz, put1o, lt2_t, o5, lt1_v, rr4, lt10_t, if_neg oz, put1o, lt2_t, o15, lt1_v, rr5, lt10_t, if_neg oz, put1o, lt2_t, o25, iw, lt1_v, if_neg oz]; rw [z35, lt1_v, lt1_v, lt1_v, lt1_v, ir, lt6_t, y_X12_readJuror_107_s, z0, lt1_v, lt1_v, lt1_v]
                exact Or.inr ⟨g, _, hg, ⟨_, _, _, _, _, _, _, _, _, _, _, qc⟩, Or.inr ⟨_, _, _, _, _, _, _, _, _, _, _, _, _, _, _, qr, ur⟩⟩
            · rcases op_end hn hl ha fa ft pl d5 with ⟨p7, l7, b7, a7, k7, m7, t7, f7, q7, n7, s7, w7, u1, u2, u3, uc, ur⟩ | ⟨g, hg, uc, ur⟩
              · skip
                have qc : y_X2_readJuror (nI j) (nI f) (nI c) sd (nI n) 0 fa lt (nI lm) bh av kd nm F N1 N2 N3 pi le hd = (nI (j + 1), sd, 0, fa, l7, b7, a7, k7, m7, vp_updL N1 j l1, upd pi j v3, upd le j v4, upd hd j v5) := by rw [y_X2_readJuror_s, if_pos c0', g4, lt5_t, dt, lt1_v, if_neg zo, dc, lt8_t, cc3, lt8_t, cc4, lt8_t, cc5, lt8_t, ic, lt6_t, if_pos rfl, uc, lt7_t, isBroken0, lt1_v, if_pos rfl]; simp only [lt1, zj, nI_1]
                have qr : y_X12_readJuror (nI n) (nI lm) to fr kd' nm' sg ft pl wd td rd G M = (1, t5, f5, q5, n5, s5, ft, pl, w5, v5, (upd (upd (upd (upd rd (5 + j) v3) (15 + j) v4) (25 + j) v5) 0 ((upd (upd (upd rd (5 + j) v3) (15 + j) v4) (25 + j) v5) 0 + 1)), vp_updL M j w1) := by rw [y_X12_readJuror_s, ef, lt9_t, if_pos rfl, z0, r0, lt1_v, dr, lt10_t, if_neg oz, lt1_v, rr3, lt10_t, if_neg oz, put1o, lt2_t, o5, lt1_v, rr4, lt10_t, if_neg oz, put1o, lt2_t, o15, lt1_v, rr5, lt10_t, if_neg oz, put1o, lt2_t, o25, iw, lt1_v, if_pos rfl]; rw [y_X12_readJuror_107_s, z0, lt1_v, lt1_v, lt1_v]
                refine Or.inl ⟨p7, l7, b7, a7, k7, m7, t7, f7, q7, n7, s7, w7, l1, w1, v3, v4, v5, _, _, _, t5, f5, q5, n5, s5, w5, by omega, u2, u3, c0, dw, qc, qr, ur, ?_, ?_, ?_, ?_, ?_, ?_⟩
                · rw [updI_s, updI_n (show (0 : Nat) ≠ 25 + j by omega), updI_n (show (0 : Nat) ≠ 15 + j by omega), updI_n (show (0 : Nat) ≠ 5 + j by omega), r0, nI_1]
                · rw [updI_n (show (35 : Nat) ≠ 0 by omega), updI_n (show (35 : Nat) ≠ 25 + j by omega), updI_n (show (35 : Nat) ≠ 15 + j by omega), updI_n (show (35 : Nat) ≠ 5 + j by omega), r35]
                · rw [updI_n (show (5 + j : Nat) ≠ 0 by omega), updI_n (show (5 + j : Nat) ≠ 25 + j by omega), updI_n (show (5 + j : Nat) ≠ 15 + j by omega), updI_s]
                · rw [updI_n (show (15 + j : Nat) ≠ 0 by omega), updI_n (show (15 + j : Nat) ≠ 25 + j by omega), updI_s]
                · rw [updI_n (show (25 + j : Nat) ≠ 0 by omega), updI_s]
                · intro k h0 h35 h5 h15 h25
                  rw [updI_n h0, updI_n h25, updI_n h15, updI_n h5]
              · skip
                have qc : y_X2_readJuror (nI j) (nI f) (nI c) sd (nI n) 0 fa lt (nI lm) bh av kd nm F N1 N2 N3 pi le hd = (nI j, sd, g, f5, 0, b5, a5, 0, m5, N1, pi, le, hd) := by rw [y_X2_readJuror_s, if_pos c0', g4, lt5_t, dt, lt1_v, if_neg zo, dc, lt8_t, cc3, lt8_t, cc4, lt8_t, cc5, lt8_t, ic, lt6_t, if_pos rfl, uc, lt7_t, isBroken1 hg, lt1_v, if_neg oz]
                have qr : y_X12_readJuror (nI n) (nI lm) to fr kd' nm' sg ft pl wd td rd G M = (1, t5, f5, q5, n5, s5, ft, pl, w5, v5, (upd (upd (upd (upd rd (5 + j) v3) (15 + j) v4) (25 + j) v5) 0 ((upd (upd (upd rd (5 + j) v3) (15 + j) v4) (25 + j) v5) 0 + 1)), vp_updL M j w1) := by rw [y_X12_readJuror_s, ef, lt9_t, if_pos rfl, z0, r0, lt1_v, dr, lt10_t, if_neg oz, lt1_v, rr3, lt10_t, if_neg oz, put1o, lt2_t, o5, lt1_v, rr4, lt10_t, if_neg oz, put1o, lt2_t, o15, lt1_v, rr5, lt10_t, if_neg oz, put1o, lt2_t, o25, iw, lt1_v, if_pos rfl]; rw [y_X12_readJuror_107_s, z0, lt1_v, lt1_v, lt1_v]
                exact Or.inr ⟨g, _, hg, ⟨_, _, _, _, _, _, _, _, _, _, _, qc⟩, Or.inr ⟨_, _, _, _, _, _, _, _, _, _, _, _, _, _, _, qr, ur⟩⟩
  · have c0' : ¬ nI j < (10 : Int32) := fun z => c0 ((lt10_v (by omega)).mp z)
    have c1 : j = 10 := by omega
    have ef : y_X12_readFirst_j (nI n) (nI lm) to fr 2 nm' sg ft pl wd rd G = (0, to, fr, 2, nm', sg, 4, fr, wd) := first_j_bad ft pl (by rw [r0, c1])
    subst hq
    have h4 : ¬ (4 : Int32) = 0 := by decide
    have qc : y_X2_readJuror (nI j) (nI f) (nI c) sd (nI n) 0 fa lt (nI lm) bh av kd nm F N1 N2 N3 pi le hd = (nI j, sd, 4, fr, 0, bh, av, 0, nm, N1, pi, le, hd) := by rw [y_X2_readJuror_s, if_neg c0']; simp only [lt1, lt2_t, lt3_t, lt4_t, lt5_t, lt6_t, lt7_t, lt8_t, lt9_t, lt10_t, lt11_t, lt12_t, lt13_t, if_pos, if_neg oz, if_neg zo, isBroken0, fail0, if1, nI_1, isBroken1 h4, ite_self, e0]
    have qr : y_X12_readJuror (nI n) (nI lm) to fr 2 nm' sg ft pl wd td rd G M = (0, to, fr, 2, nm', sg, 4, fr, wd, td, rd, M) := by rw [y_X12_readJuror_s, ef, lt9_t, if_neg zo]
    exact Or.inr ⟨4, _, h4, ⟨_, _, _, _, _, _, _, _, _, _, _, qc⟩, Or.inl ⟨_, _, _, _, _, _, _, _, _, qr⟩⟩
