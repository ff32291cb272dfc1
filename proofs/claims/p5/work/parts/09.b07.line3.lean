theorem line_all {n p lm : Nat} (hn : n ≤ 940) (hl : lm ≤ 940) {F G : Nat → Int32} (ha : ∀ j, j < n → F j = G j) {lt : Int64} {bh av kd nm to fr kd' nm' sg : Int32} {wd : Int64} (fa ft pl td : Int32) {j f c : Nat} {one dent sd t1_ t2_ : Int32} {N1 N2 N3 : Nat → Int64} {pi le hd tu du cf tn rd : Nat → Int32} {M : Nat → Int64} {on : Nat → Int32} (d : DR j f c one dent sd t1_ t2_ N1 N2 N3 pi le hd tu du cf tn rd M on) (h : TR n p lt bh av kd nm to fr kd' nm' sg wd) (hk1 : ¬ kd = 1) :
    (∃ (p9 : Nat) (l9 : Int64) (b9 a9 k9 m9 t9 f9 q9 n9 s9 : Int32) (w9 : Int64) (j9 f9_ c9 : Nat) (one9 dent9 sd9 t19 t29 td9 : Int32) (N19 N29 N39 : Nat → Int64) (pi9 le9 hd9 tu9 du9 cf9 tn9 rd9 : Nat → Int32) (M9 : Nat → Int64) (on9 : Nat → Int32) (t8 f8 q8 n8 s8 : Int32) (w8 : Int64), p + 2 ≤ p9 ∧ p9 ≤ n ∧ TR n p9 l9 b9 a9 k9 m9 t9 f9 q9 n9 s9 w9 ∧ DR j9 f9_ c9 one9 dent9 sd9 t19 t29 N19 N29 N39 pi9 le9 hd9 tu9 du9 cf9 tn9 rd9 M9 on9 ∧ y_X2_readLine t1_ t2_ (nI n) 0 fa lt (nI lm) bh av kd nm F (nI j) (nI f) (nI c) one dent sd N1 N2 tn N3 cf tu du pi le hd = (t19, t29, 0, fa, l9, b9, a9, k9, m9, nI j9, nI f9_, nI c9, one9, dent9, sd9, N19, N29, tn9, N39, cf9, tu9, du9, pi9, le9, hd9) ∧ y_X12_readLine (nI n) (nI lm) to fr kd' nm' sg ft pl wd td on G rd M = (1, t8, f8, q8, n8, s8, ft, pl, w8, td9, on9, rd9, M9) ∧ y_X12_readEnd (nI n) (nI lm) t8 f8 q8 n8 s8 ft pl w8 G = (1, t9, f9, q9, n9, s9, ft, pl, w9)) ∨ (∃ g P : Int32, ¬ g = 0 ∧ (∃ x0 x1 x2 x3 x4 x5 x6 x7 x8 x9 x10 x11 x12 x13 x14 x15 x16 x17 x18 x19 x20 x21 x22, y_X2_readLine t1_ t2_ (nI n) 0 fa lt (nI lm) bh av kd nm F (nI j) (nI f) (nI c) one dent sd N1 N2 tn N3 cf tu du pi le hd = (x0, x1, g, P, x2, x3, x4, x5, x6, x7, x8, x9, x10, x11, x12, x13, x14, x15, x16, x17, x18, x19, x20, x21, x22)) ∧ ((∃ y0 y1 y2 y3 y4 y5 y6 y7 y8 y9, y_X12_readLine (nI n) (nI lm) to fr kd' nm' sg ft pl wd td on G rd M = (0, y0, y1, y2, y3, y4, g, P, y5, y6, y7, y8, y9)) ∨ (∃ y0 y1 y2 y3 y4 y5 y6 y7 y8 y9 t9 f9 q9 n9 s9 w9, y_X12_readLine (nI n) (nI lm) to fr kd' nm' sg ft pl wd td on G rd M = (1, y0, y1, y2, y3, y4, ft, pl, y5, y6, y7, y8, y9) ∧ y_X12_readEnd (nI n) (nI lm) y0 y1 y2 y3 y4 ft pl y5 G = (0, t9, f9, q9, n9, s9, g, P, w9)))) := by
  obtain ⟨hN, ⟨r0, r1, r2, r3, r4, r35⟩, dj, df, dc, dt, o0, o1⟩ := id d
  have hj := hN.1
  have hf := hN.2.1
  have hc := hN.2.2.1
  have s0_ : y_X6_sees lt kd 0 = y_X12_isWord_0 kd' wd := by rw [sees_w h.kr (by decide), isWord_v0]
  have s2_ : y_X6_sees lt kd 2 = y_X12_isWord_2 kd' wd := by rw [sees_w h.kr (by decide), isWord_v2]
  have s3_ : y_X6_sees lt kd 3 = y_X12_isWord_3 kd' wd := by rw [sees_w h.kr (by decide), isWord_v3]
  have s4_ : y_X6_sees lt kd 4 = y_X12_isWord_4 kd' wd := by rw [sees_w h.kr (by decide), isWord_v4]
  have s5_ : y_X6_sees lt kd 5 = y_X12_isWord_5 kd' wd := by rw [sees_w h.kr (by decide), isWord_v5]
  have s6_ : y_X6_sees lt kd 6 = y_X12_isWord_6 kd' wd := by rw [sees_w h.kr (by decide), isWord_v6]
  by_cases c0_ : kd' = 2 ∧ wd = wv 0
  · have i0_ : y_X12_isWord_0 kd' wd = 1 := by rw [isWord_v0, if_pos c0_]
    have hk : kd = 2 := by
      rcases h.kr with ⟨a, -, -⟩ | ⟨-, b⟩
      · exact a
      · exact absurd c0_.1 b
    rcases juror_line hn hl ha fa ft pl td sd hN r0 r1 r2 r35 h hk with ⟨p9, l9, b9, a9, k9, m9, t9, f9, q9, n9, s9, w9, L, Wd, v1, v2, v3, sd', td', rd', t8, f8, q8, n8, s8, w8, u1, u2, u3, c0, dw, qc, qr, ur, e0, e35, e5, e15, e25, H⟩ | ⟨g, P, hg, ⟨x0, x1, x4, x5, x6, x7, x8, x9, x10, x11, x12, qc⟩, ⟨y0, y1, y2, y3, y4, y5, y6, y7, y8, qr⟩ | ⟨y0, y1, y2, y3, y4, y5, y6, y7, y8, t9, f9, q9, n9, s9, w9, qr, ur⟩⟩
    · have xc : y_X2_readLine t1_ t2_ (nI n) 0 fa lt (nI lm) bh av kd nm F (nI j) (nI f) (nI c) one dent sd N1 N2 tn N3 cf tu du pi le hd = (t1_, t2_, 0, fa, l9, b9, a9, k9, m9, nI (j + 1), nI f, nI c, one, dent, sd', vp_updL N1 j L, N2, tn, N3, cf, tu, du, upd pi j v1, upd le j v2, upd hd j v3) := by rw [y_X2_readLine_s, s0_, i0_, lt1_v, if_neg oz, qc, lt13_t]
      have xr : y_X12_readLine (nI n) (nI lm) to fr kd' nm' sg ft pl wd td on G rd M = (1, t8, f8, q8, n8, s8, ft, pl, w8, td', on, rd', vp_updL M j Wd) := by rw [y_X12_readLine_s, i0_, lt1_v, if_neg oz, qr, lt12_t, if_neg oz]
      refine Or.inl ⟨p9, l9, b9, a9, k9, m9, t9, f9, q9, n9, s9, w9, j + 1, f, c, one, dent, sd', t1_, t2_, td', vp_updL N1 j L, N2, N3, upd pi j v1, upd le j v2, upd hd j v3, tu, du, cf, tn, rd', vp_updL M j Wd, on, t8, f8, q8, n8, s8, w8, u1, u2, u3, ⟨?_, ?_, ?_, ?_, ?_, ?_, ?_, ?_⟩, xc, xr, ur⟩
      · exact NM_j hN c0 dw
      · exact ⟨e0, (H (1) (by omega) (by omega) (by omega) (by omega) (by omega)).trans r1, (H (2) (by omega) (by omega) (by omega) (by omega) (by omega)).trans r2, (H (3) (by omega) (by omega) (by omega) (by omega) (by omega)).trans r3, (H (4) (by omega) (by omega) (by omega) (by omega) (by omega)).trans r4, e35⟩
      · exact fun k hk => by
              by_cases e : k = j
              · subst e; rw [updI_s, updI_s, updI_s]; exact ⟨e5.symm, e15.symm, e25.symm⟩
              · rw [updI_n e, updI_n e, updI_n e]; exact ⟨(dj k (by omega)).1.trans (H (5 + k) (by omega) (by omega) (by omega) (by omega) (by omega)).symm, (dj k (by omega)).2.1.trans (H (15 + k) (by omega) (by omega) (by omega) (by omega) (by omega)).symm, (dj k (by omega)).2.2.trans (H (25 + k) (by omega) (by omega) (by omega) (by omega) (by omega)).symm⟩
      · exact fun k hk => ⟨(df k hk).1.trans (H (36 + k) (by omega) (by omega) (by omega) (by omega) (by omega)).symm, (df k hk).2.trans (H (40 + k) (by omega) (by omega) (by omega) (by omega) (by omega)).symm⟩
      · exact fun k hk => (dc k hk).trans (H (44 + k) (by omega) (by omega) (by omega) (by omega) (by omega)).symm
      · exact fun k hk => (dt k hk).trans (H (49 + k) (by omega) (by omega) (by omega) (by omega) (by omega)).symm
      · exact o0
      · exact o1
    · have xc : y_X2_readLine t1_ t2_ (nI n) 0 fa lt (nI lm) bh av kd nm F (nI j) (nI f) (nI c) one dent sd N1 N2 tn N3 cf tu du pi le hd = (t1_, t2_, g, P, x4, x5, x6, x7, x8, x0, nI f, nI c, one, dent, x1, x9, N2, tn, N3, cf, tu, du, x10, x11, x12) := by rw [y_X2_readLine_s, s0_, i0_, lt1_v, if_neg oz, qc, lt13_t]
      have xr : y_X12_readLine (nI n) (nI lm) to fr kd' nm' sg ft pl wd td on G rd M = (0, y0, y1, y2, y3, y4, g, P, y5, y6, on, y7, y8) := by rw [y_X12_readLine_s, i0_, lt1_v, if_neg oz, qr, lt12_t, if_pos rfl]
      exact Or.inr ⟨g, P, hg, ⟨_, _, _, _, _, _, _, _, _, _, _, _, _, _, _, _, _, _, _, _, _, _, _, xc⟩, Or.inl ⟨_, _, _, _, _, _, _, _, _, _, xr⟩⟩
    · have xc : y_X2_readLine t1_ t2_ (nI n) 0 fa lt (nI lm) bh av kd nm F (nI j) (nI f) (nI c) one dent sd N1 N2 tn N3 cf tu du pi le hd = (t1_, t2_, g, P, x4, x5, x6, x7, x8, x0, nI f, nI c, one, dent, x1, x9, N2, tn, N3, cf, tu, du, x10, x11, x12) := by rw [y_X2_readLine_s, s0_, i0_, lt1_v, if_neg oz, qc, lt13_t]
      have xr : y_X12_readLine (nI n) (nI lm) to fr kd' nm' sg ft pl wd td on G rd M = (1, y0, y1, y2, y3, y4, ft, pl, y5, y6, on, y7, y8) := by rw [y_X12_readLine_s, i0_, lt1_v, if_neg oz, qr, lt12_t, if_neg oz]
      exact Or.inr ⟨g, P, hg, ⟨_, _, _, _, _, _, _, _, _, _, _, _, _, _, _, _, _, _, _, _, _, _, _, xc⟩, Or.inr ⟨_, _, _, _, _, _, _, _, _, _, _, _, _, _, _, _, xr, ur⟩⟩
  have i0_ : y_X12_isWord_0 kd' wd = 0 := by rw [isWord_v0, if_neg c0_]
  by_cases c2_ : kd' = 2 ∧ wd = wv 2
  · have i2_ : y_X12_isWord_2 kd' wd = 1 := by rw [isWord_v2, if_pos c2_]
    have hk : kd = 2 := by
      rcases h.kr with ⟨a, -, -⟩ | ⟨-, b⟩
      · exact a
      · exact absurd c2_.1 b
    rcases floor_line hn hl ha fa ft pl td hN r0 r1 r2 h hk with ⟨p9, l9, b9, a9, k9, m9, t9, f9, q9, n9, s9, w9, L, Wd, v1, v2, td', rd', t8, f8, q8, n8, s8, w8, u1, u2, u3, c0, dw, qc, qr, ur, e1, e36, e40, H⟩ | ⟨g, P, hg, ⟨x0, x3, x4, x5, x6, x7, x8, x9, x10, qc⟩, ⟨y0, y1, y2, y3, y4, y5, y6, y7, y8, qr⟩ | ⟨y0, y1, y2, y3, y4, y5, y6, y7, y8, t9, f9, q9, n9, s9, w9, qr, ur⟩⟩
    · have xc : y_X2_readLine t1_ t2_ (nI n) 0 fa lt (nI lm) bh av kd nm F (nI j) (nI f) (nI c) one dent sd N1 N2 tn N3 cf tu du pi le hd = (t1_, t2_, 0, fa, l9, b9, a9, k9, m9, nI j, nI (f + 1), nI c, one, dent, sd, N1, vp_updL N2 f L, tn, N3, cf, upd tu f v1, upd du f v2, pi, le, hd) := by rw [y_X2_readLine_s, s0_, i0_, lt1_v, if_pos rfl, s2_, i2_, lt1_v, if_neg oz, qc, lt11_t]
      have xr : y_X12_readLine (nI n) (nI lm) to fr kd' nm' sg ft pl wd td on G rd M = (1, t8, f8, q8, n8, s8, ft, pl, w8, td', on, rd', vp_updL M (10 + f) Wd) := by rw [y_X12_readLine_s, i0_, lt1_v, if_pos rfl, i2_, lt1_v, if_neg oz, qr, lt12_t, if_neg oz]
      refine Or.inl ⟨p9, l9, b9, a9, k9, m9, t9, f9, q9, n9, s9, w9, j, f + 1, c, one, dent, sd, t1_, t2_, td', N1, vp_updL N2 f L, N3, pi, le, hd, upd tu f v1, upd du f v2, cf, tn, rd', vp_updL M (10 + f) Wd, on, t8, f8, q8, n8, s8, w8, u1, u2, u3, ⟨?_, ?_, ?_, ?_, ?_, ?_, ?_, ?_⟩, xc, xr, ur⟩
      · exact NM_f hN c0 dw
      · exact ⟨(H (0) (by omega) (by omega) (by omega)).trans r0, e1, (H (2) (by omega) (by omega) (by omega)).trans r2, (H (3) (by omega) (by omega) (by omega)).trans r3, (H (4) (by omega) (by omega) (by omega)).trans r4, (H (35) (by omega) (by omega) (by omega)).trans r35⟩
      · exact fun k hk => ⟨(dj k hk).1.trans (H (5 + k) (by omega) (by omega) (by omega)).symm, (dj k hk).2.1.trans (H (15 + k) (by omega) (by omega) (by omega)).symm, (dj k hk).2.2.trans (H (25 + k) (by omega) (by omega) (by omega)).symm⟩
      · exact fun k hk => by
              by_cases e : k = f
              · subst e; rw [updI_s, updI_s]; exact ⟨e36.symm, e40.symm⟩
              · rw [updI_n e, updI_n e]; exact ⟨(df k (by omega)).1.trans (H (36 + k) (by omega) (by omega) (by omega)).symm, (df k (by omega)).2.trans (H (40 + k) (by omega) (by omega) (by omega)).symm⟩
      · exact fun k hk => (dc k hk).trans (H (44 + k) (by omega) (by omega) (by omega)).symm
      · exact fun k hk => (dt k hk).trans (H (49 + k) (by omega) (by omega) (by omega)).symm
      · exact o0
      · exact o1
    · have xc : y_X2_readLine t1_ t2_ (nI n) 0 fa lt (nI lm) bh av kd nm F (nI j) (nI f) (nI c) one dent sd N1 N2 tn N3 cf tu du pi le hd = (t1_, t2_, g, P, x3, x4, x5, x6, x7, nI j, x0, nI c, one, dent, sd, N1, x8, tn, N3, cf, x9, x10, pi, le, hd) := by rw [y_X2_readLine_s, s0_, i0_, lt1_v, if_pos rfl, s2_, i2_, lt1_v, if_neg oz, qc, lt11_t]
      have xr : y_X12_readLine (nI n) (nI lm) to fr kd' nm' sg ft pl wd td on G rd M = (0, y0, y1, y2, y3, y4, g, P, y5, y6, on, y7, y8) := by rw [y_X12_readLine_s, i0_, lt1_v, if_pos rfl, i2_, lt1_v, if_neg oz, qr, lt12_t, if_pos rfl]
      exact Or.inr ⟨g, P, hg, ⟨_, _, _, _, _, _, _, _, _, _, _, _, _, _, _, _, _, _, _, _, _, _, _, xc⟩, Or.inl ⟨_, _, _, _, _, _, _, _, _, _, xr⟩⟩
    · have xc : y_X2_readLine t1_ t2_ (nI n) 0 fa lt (nI lm) bh av kd nm F (nI j) (nI f) (nI c) one dent sd N1 N2 tn N3 cf tu du pi le hd = (t1_, t2_, g, P, x3, x4, x5, x6, x7, nI j, x0, nI c, one, dent, sd, N1, x8, tn, N3, cf, x9, x10, pi, le, hd) := by rw [y_X2_readLine_s, s0_, i0_, lt1_v, if_pos rfl, s2_, i2_, lt1_v, if_neg oz, qc, lt11_t]
      have xr : y_X12_readLine (nI n) (nI lm) to fr kd' nm' sg ft pl wd td on G rd M = (1, y0, y1, y2, y3, y4, ft, pl, y5, y6, on, y7, y8) := by rw [y_X12_readLine_s, i0_, lt1_v, if_pos rfl, i2_, lt1_v, if_neg oz, qr, lt12_t, if_neg oz]
      exact Or.inr ⟨g, P, hg, ⟨_, _, _, _, _, _, _, _, _, _, _, _, _, _, _, _, _, _, _, _, _, _, _, xc⟩, Or.inr ⟨_, _, _, _, _, _, _, _, _, _, _, _, _, _, _, _, xr, ur⟩⟩
  have i2_ : y_X12_isWord_2 kd' wd = 0 := by rw [isWord_v2, if_neg c2_]
  by_cases c3_ : kd' = 2 ∧ wd = wv 3
  · have i3_ : y_X12_isWord_3 kd' wd = 1 := by rw [isWord_v3, if_pos c3_]
    have hk : kd = 2 := by
      rcases h.kr with ⟨a, -, -⟩ | ⟨-, b⟩
      · exact a
      · exact absurd c3_.1 b
    rcases case_line hn hl ha fa ft pl td hN r0 r1 r2 h hk with ⟨p9, l9, b9, a9, k9, m9, t9, f9, q9, n9, s9, w9, L, Wd, v1, td', rd', t8, f8, q8, n8, s8, w8, u1, u2, u3, c0, dw, qc, qr, ur, e2, e44, H⟩ | ⟨g, P, hg, ⟨x0, x3, x4, x5, x6, x7, x8, x9, qc⟩, ⟨y0, y1, y2, y3, y4, y5, y6, y7, y8, qr⟩ | ⟨y0, y1, y2, y3, y4, y5, y6, y7, y8, t9, f9, q9, n9, s9, w9, qr, ur⟩⟩
    · have xc : y_X2_readLine t1_ t2_ (nI n) 0 fa lt (nI lm) bh av kd nm F (nI j) (nI f) (nI c) one dent sd N1 N2 tn N3 cf tu du pi le hd = (t1_, t2_, 0, fa, l9, b9, a9, k9, m9, nI j, nI f, nI (c + 1), one, dent, sd, N1, N2, tn, vp_updL N3 c L, upd cf c v1, tu, du, pi, le, hd) := by rw [y_X2_readLine_s, s0_, i0_, lt1_v, if_pos rfl, s2_, i2_, lt1_v, if_pos rfl, s3_, i3_, lt1_v, if_neg oz, qc, lt10_t]
      have xr : y_X12_readLine (nI n) (nI lm) to fr kd' nm' sg ft pl wd td on G rd M = (1, t8, f8, q8, n8, s8, ft, pl, w8, td', on, rd', vp_updL M (14 + c) Wd) := by rw [y_X12_readLine_s, i0_, lt1_v, if_pos rfl, i2_, lt1_v, if_pos rfl, i3_, lt1_v, if_neg oz, qr, lt12_t, if_neg oz]
      refine Or.inl ⟨p9, l9, b9, a9, k9, m9, t9, f9, q9, n9, s9, w9, j, f, c + 1, one, dent, sd, t1_, t2_, td', N1, N2, vp_updL N3 c L, pi, le, hd, tu, du, upd cf c v1, tn, rd', vp_updL M (14 + c) Wd, on, t8, f8, q8, n8, s8, w8, u1, u2, u3, ⟨?_, ?_, ?_, ?_, ?_, ?_, ?_, ?_⟩, xc, xr, ur⟩
      · exact NM_c hN c0 dw
      · exact ⟨(H (0) (by omega) (by omega)).trans r0, (H (1) (by omega) (by omega)).trans r1, e2, (H (3) (by omega) (by omega)).trans r3, (H (4) (by omega) (by omega)).trans r4, (H (35) (by omega) (by omega)).trans r35⟩
      · exact fun k hk => ⟨(dj k hk).1.trans (H (5 + k) (by omega) (by omega)).symm, (dj k hk).2.1.trans (H (15 + k) (by omega) (by omega)).symm, (dj k hk).2.2.trans (H (25 + k) (by omega) (by omega)).symm⟩
      · exact fun k hk => ⟨(df k hk).1.trans (H (36 + k) (by omega) (by omega)).symm, (df k hk).2.trans (H (40 + k) (by omega) (by omega)).symm⟩
      · exact fun k hk => by
              by_cases e : k = c
              · subst e; rw [updI_s]; exact e44.symm
              · rw [updI_n e]; exact (dc k (by omega)).trans (H (44 + k) (by omega) (by omega)).symm
      · exact fun k hk => (dt k hk).trans (H (49 + k) (by omega) (by omega)).symm
      · exact o0
      · exact o1
    · have xc : y_X2_readLine t1_ t2_ (nI n) 0 fa lt (nI lm) bh av kd nm F (nI j) (nI f) (nI c) one dent sd N1 N2 tn N3 cf tu du pi le hd = (t1_, t2_, g, P, x3, x4, x5, x6, x7, nI j, nI f, x0, one, dent, sd, N1, N2, tn, x8, x9, tu, du, pi, le, hd) := by rw [y_X2_readLine_s, s0_, i0_, lt1_v, if_pos rfl, s2_, i2_, lt1_v, if_pos rfl, s3_, i3_, lt1_v, if_neg oz, qc, lt10_t]
      have xr : y_X12_readLine (nI n) (nI lm) to fr kd' nm' sg ft pl wd td on G rd M = (0, y0, y1, y2, y3, y4, g, P, y5, y6, on, y7, y8) := by rw [y_X12_readLine_s, i0_, lt1_v, if_pos rfl, i2_, lt1_v, if_pos rfl, i3_, lt1_v, if_neg oz, qr, lt12_t, if_pos rfl]
      exact Or.inr ⟨g, P, hg, ⟨_, _, _, _, _, _, _, _, _, _, _, _, _, _, _, _, _, _, _, _, _, _, _, xc⟩, Or.inl ⟨_, _, _, _, _, _, _, _, _, _, xr⟩⟩
    · have xc : y_X2_readLine t1_ t2_ (nI n) 0 fa lt (nI lm) bh av kd nm F (nI j) (nI f) (nI c) one dent sd N1 N2 tn N3 cf tu du pi le hd = (t1_, t2_, g, P, x3, x4, x5, x6, x7, nI j, nI f, x0, one, dent, sd, N1, N2, tn, x8, x9, tu, du, pi, le, hd) := by rw [y_X2_readLine_s, s0_, i0_, lt1_v, if_pos rfl, s2_, i2_, lt1_v, if_pos rfl, s3_, i3_, lt1_v, if_neg oz, qc, lt10_t]
      have xr : y_X12_readLine (nI n) (nI lm) to fr kd' nm' sg ft pl wd td on G rd M = (1, y0, y1, y2, y3, y4, ft, pl, y5, y6, on, y7, y8) := by rw [y_X12_readLine_s, i0_, lt1_v, if_pos rfl, i2_, lt1_v, if_pos rfl, i3_, lt1_v, if_neg oz, qr, lt12_t, if_neg oz]
      exact Or.inr ⟨g, P, hg, ⟨_, _, _, _, _, _, _, _, _, _, _, _, _, _, _, _, _, _, _, _, _, _, _, xc⟩, Or.inr ⟨_, _, _, _, _, _, _, _, _, _, _, _, _, _, _, _, xr, ur⟩⟩
  have i3_ : y_X12_isWord_3 kd' wd = 0 := by rw [isWord_v3, if_neg c3_]
  by_cases c4_ : kd' = 2 ∧ wd = wv 4
  · have i4_ : y_X12_isWord_4 kd' wd = 1 := by rw [isWord_v4, if_pos c4_]
    have hk : kd = 2 := by
      rcases h.kr with ⟨a, -, -⟩ | ⟨-, b⟩
      · exact a
      · exact absurd c4_.1 b
    rcases tuned_line hn hl ha fa ft pl td hN r0 r1 r2 dt h hk with ⟨p9, l9, b9, a9, k9, m9, t9, f9, q9, n9, s9, w9, v1, td', x, rd', t8, f8, q8, n8, s8, w8, u1, u2, u3, c0, qc, qr, ur, er⟩ | ⟨g, P, hg, ⟨x2, x3, x4, x5, x6, x7, qc⟩, ⟨y0, y1, y2, y3, y4, y5, y6, y7, qr⟩ | ⟨y0, y1, y2, y3, y4, y5, y6, y7, t9, f9, q9, n9, s9, w9, qr, ur⟩⟩
    · have xc : y_X2_readLine t1_ t2_ (nI n) 0 fa lt (nI lm) bh av kd nm F (nI j) (nI f) (nI c) one dent sd N1 N2 tn N3 cf tu du pi le hd = (t1_, t2_, 0, fa, l9, b9, a9, k9, m9, nI j, nI f, nI c, one, dent, sd, N1, N2, upd tn x v1, N3, cf, tu, du, pi, le, hd) := by rw [y_X2_readLine_s, s0_, i0_, lt1_v, if_pos rfl, s2_, i2_, lt1_v, if_pos rfl, s3_, i3_, lt1_v, if_pos rfl, s4_, i4_, lt1_v, if_neg oz, qc, lt8_t]
      have xr : y_X12_readLine (nI n) (nI lm) to fr kd' nm' sg ft pl wd td on G rd M = (1, t8, f8, q8, n8, s8, ft, pl, w8, td', on, rd', M) := by rw [y_X12_readLine_s, i0_, lt1_v, if_pos rfl, i2_, lt1_v, if_pos rfl, i3_, lt1_v, if_pos rfl, i4_, lt1_v, if_neg oz, qr, lt11_t, if_neg oz]
      refine Or.inl ⟨p9, l9, b9, a9, k9, m9, t9, f9, q9, n9, s9, w9, j, f, c, one, dent, sd, t1_, t2_, td', N1, N2, N3, pi, le, hd, tu, du, cf, upd tn x v1, rd', M, on, t8, f8, q8, n8, s8, w8, u1, u2, u3, ⟨?_, ?_, ?_, ?_, ?_, ?_, ?_, ?_⟩, xc, xr, ur⟩
      · exact hN
      · exact ⟨(by rw [er, updI_n (by omega)] : rd' (0) = rd (0)).trans r0, (by rw [er, updI_n (by omega)] : rd' (1) = rd (1)).trans r1, (by rw [er, updI_n (by omega)] : rd' (2) = rd (2)).trans r2, (by rw [er, updI_n (by omega)] : rd' (3) = rd (3)).trans r3, (by rw [er, updI_n (by omega)] : rd' (4) = rd (4)).trans r4, (by rw [er, updI_n (by omega)] : rd' (35) = rd (35)).trans r35⟩
      · exact fun k hk => ⟨(dj k hk).1.trans (by rw [er, updI_n (by omega)] : rd' (5 + k) = rd (5 + k)).symm, (dj k hk).2.1.trans (by rw [er, updI_n (by omega)] : rd' (15 + k) = rd (15 + k)).symm, (dj k hk).2.2.trans (by rw [er, updI_n (by omega)] : rd' (25 + k) = rd (25 + k)).symm⟩
      · exact fun k hk => ⟨(df k hk).1.trans (by rw [er, updI_n (by omega)] : rd' (36 + k) = rd (36 + k)).symm, (df k hk).2.trans (by rw [er, updI_n (by omega)] : rd' (40 + k) = rd (40 + k)).symm⟩
      · exact fun k hk => (dc k hk).trans (by rw [er, updI_n (by omega)] : rd' (44 + k) = rd (44 + k)).symm
      · exact fun k hk => by
              by_cases e : k = x
              · subst e; rw [updI_s, er, updI_s]
              · rw [updI_n e, er, updI_n (by omega)]; exact dt k hk
      · exact o0
      · exact o1
    · have xc : y_X2_readLine t1_ t2_ (nI n) 0 fa lt (nI lm) bh av kd nm F (nI j) (nI f) (nI c) one dent sd N1 N2 tn N3 cf tu du pi le hd = (t1_, t2_, g, P, x2, x3, x4, x5, x6, nI j, nI f, nI c, one, dent, sd, N1, N2, x7, N3, cf, tu, du, pi, le, hd) := by rw [y_X2_readLine_s, s0_, i0_, lt1_v, if_pos rfl, s2_, i2_, lt1_v, if_pos rfl, s3_, i3_, lt1_v, if_pos rfl, s4_, i4_, lt1_v, if_neg oz, qc, lt8_t]
      have xr : y_X12_readLine (nI n) (nI lm) to fr kd' nm' sg ft pl wd td on G rd M = (0, y0, y1, y2, y3, y4, g, P, y5, y6, on, y7, M) := by rw [y_X12_readLine_s, i0_, lt1_v, if_pos rfl, i2_, lt1_v, if_pos rfl, i3_, lt1_v, if_pos rfl, i4_, lt1_v, if_neg oz, qr, lt11_t, if_pos rfl]
      exact Or.inr ⟨g, P, hg, ⟨_, _, _, _, _, _, _, _, _, _, _, _, _, _, _, _, _, _, _, _, _, _, _, xc⟩, Or.inl ⟨_, _, _, _, _, _, _, _, _, _, xr⟩⟩
    · have xc : y_X2_readLine t1_ t2_ (nI n) 0 fa lt (nI lm) bh av kd nm F (nI j) (nI f) (nI c) one dent sd N1 N2 tn N3 cf tu du pi le hd = (t1_, t2_, g, P, x2, x3, x4, x5, x6, nI j, nI f, nI c, one, dent, sd, N1, N2, x7, N3, cf, tu, du, pi, le, hd) := by rw [y_X2_readLine_s, s0_, i0_, lt1_v, if_pos rfl, s2_, i2_, lt1_v, if_pos rfl, s3_, i3_, lt1_v, if_pos rfl, s4_, i4_, lt1_v, if_neg oz, qc, lt8_t]
      have xr : y_X12_readLine (nI n) (nI lm) to fr kd' nm' sg ft pl wd td on G rd M = (1, y0, y1, y2, y3, y4, ft, pl, y5, y6, on, y7, M) := by rw [y_X12_readLine_s, i0_, lt1_v, if_pos rfl, i2_, lt1_v, if_pos rfl, i3_, lt1_v, if_pos rfl, i4_, lt1_v, if_neg oz, qr, lt11_t, if_neg oz]
      exact Or.inr ⟨g, P, hg, ⟨_, _, _, _, _, _, _, _, _, _, _, _, _, _, _, _, _, _, _, _, _, _, _, xc⟩, Or.inr ⟨_, _, _, _, _, _, _, _, _, _, _, _, _, _, _, _, xr, ur⟩⟩
  have i4_ : y_X12_isWord_4 kd' wd = 0 := by rw [isWord_v4, if_neg c4_]
  by_cases c5_ : kd' = 2 ∧ wd = wv 5
  · have i5_ : y_X12_isWord_5 kd' wd = 1 := by rw [isWord_v5, if_pos c5_]
    have hk : kd = 2 := by
      rcases h.kr with ⟨a, -, -⟩ | ⟨-, b⟩
      · exact a
      · exact absurd c5_.1 b
    rcases one_line hn hl ha fa ft pl td t1_ (rd := rd) o0 h hk with ⟨p9, l9, b9, a9, k9, m9, t9, f9, q9, n9, s9, w9, v1, td', on', rd', t8, f8, q8, n8, s8, w8, u1, u2, u3, c0, qc, qr, ur, eo, eo', ev, H⟩ | ⟨g, P, hg, ⟨x2, x3, x4, x5, x6, x7, qc⟩, ⟨y0, y1, y2, y3, y4, y5, y6, y7, y8, qr⟩ | ⟨y0, y1, y2, y3, y4, y5, y6, y7, y8, t9, f9, q9, n9, s9, w9, qr, ur⟩⟩
    · have xc : y_X2_readLine t1_ t2_ (nI n) 0 fa lt (nI lm) bh av kd nm F (nI j) (nI f) (nI c) one dent sd N1 N2 tn N3 cf tu du pi le hd = (1, t2_, 0, fa, l9, b9, a9, k9, m9, nI j, nI f, nI c, v1, dent, sd, N1, N2, tn, N3, cf, tu, du, pi, le, hd) := by rw [y_X2_readLine_s, s0_, i0_, lt1_v, if_pos rfl, s2_, i2_, lt1_v, if_pos rfl, s3_, i3_, lt1_v, if_pos rfl, s4_, i4_, lt1_v, if_pos rfl, s5_, i5_, lt1_v, if_neg oz, qc, lt8_t]
      have xr : y_X12_readLine (nI n) (nI lm) to fr kd' nm' sg ft pl wd td on G rd M = (1, t8, f8, q8, n8, s8, ft, pl, w8, td', on', rd', M) := by rw [y_X12_readLine_s, i0_, lt1_v, if_pos rfl, i2_, lt1_v, if_pos rfl, i3_, lt1_v, if_pos rfl, i4_, lt1_v, if_pos rfl, i5_, lt1_v, if_neg oz, qr, lt12_t, if_neg oz]
      refine Or.inl ⟨p9, l9, b9, a9, k9, m9, t9, f9, q9, n9, s9, w9, j, f, c, v1, dent, sd, 1, t2_, td', N1, N2, N3, pi, le, hd, tu, du, cf, tn, rd', M, on', t8, f8, q8, n8, s8, w8, u1, u2, u3, ⟨?_, ?_, ?_, ?_, ?_, ?_, ?_, ?_⟩, xc, xr, ur⟩
      · exact hN
      · exact ⟨(H (0) (by omega)).trans r0, (H (1) (by omega)).trans r1, (H (2) (by omega)).trans r2, ev, (H (4) (by omega)).trans r4, (H (35) (by omega)).trans r35⟩
      · exact fun k hk => ⟨(dj k hk).1.trans (H (5 + k) (by omega)).symm, (dj k hk).2.1.trans (H (15 + k) (by omega)).symm, (dj k hk).2.2.trans (H (25 + k) (by omega)).symm⟩
      · exact fun k hk => ⟨(df k hk).1.trans (H (36 + k) (by omega)).symm, (df k hk).2.trans (H (40 + k) (by omega)).symm⟩
      · exact fun k hk => (dc k hk).trans (H (44 + k) (by omega)).symm
      · exact fun k hk => (dt k hk).trans (H (49 + k) (by omega)).symm
      · exact eo
      · exact eo'.trans o1
    · have xc : y_X2_readLine t1_ t2_ (nI n) 0 fa lt (nI lm) bh av kd nm F (nI j) (nI f) (nI c) one dent sd N1 N2 tn N3 cf tu du pi le hd = (1, t2_, g, P, x2, x3, x4, x5, x6, nI j, nI f, nI c, x7, dent, sd, N1, N2, tn, N3, cf, tu, du, pi, le, hd) := by rw [y_X2_readLine_s, s0_, i0_, lt1_v, if_pos rfl, s2_, i2_, lt1_v, if_pos rfl, s3_, i3_, lt1_v, if_pos rfl, s4_, i4_, lt1_v, if_pos rfl, s5_, i5_, lt1_v, if_neg oz, qc, lt8_t]
      have xr : y_X12_readLine (nI n) (nI lm) to fr kd' nm' sg ft pl wd td on G rd M = (0, y0, y1, y2, y3, y4, g, P, y5, y6, y7, y8, M) := by rw [y_X12_readLine_s, i0_, lt1_v, if_pos rfl, i2_, lt1_v, if_pos rfl, i3_, lt1_v, if_pos rfl, i4_, lt1_v, if_pos rfl, i5_, lt1_v, if_neg oz, qr, lt12_t, if_pos rfl]
      exact Or.inr ⟨g, P, hg, ⟨_, _, _, _, _, _, _, _, _, _, _, _, _, _, _, _, _, _, _, _, _, _, _, xc⟩, Or.inl ⟨_, _, _, _, _, _, _, _, _, _, xr⟩⟩
    · have xc : y_X2_readLine t1_ t2_ (nI n) 0 fa lt (nI lm) bh av kd nm F (nI j) (nI f) (nI c) one dent sd N1 N2 tn N3 cf tu du pi le hd = (1, t2_, g, P, x2, x3, x4, x5, x6, nI j, nI f, nI c, x7, dent, sd, N1, N2, tn, N3, cf, tu, du, pi, le, hd) := by rw [y_X2_readLine_s, s0_, i0_, lt1_v, if_pos rfl, s2_, i2_, lt1_v, if_pos rfl, s3_, i3_, lt1_v, if_pos rfl, s4_, i4_, lt1_v, if_pos rfl, s5_, i5_, lt1_v, if_neg oz, qc, lt8_t]
      have xr : y_X12_readLine (nI n) (nI lm) to fr kd' nm' sg ft pl wd td on G rd M = (1, y0, y1, y2, y3, y4, ft, pl, y5, y6, y7, y8, M) := by rw [y_X12_readLine_s, i0_, lt1_v, if_pos rfl, i2_, lt1_v, if_pos rfl, i3_, lt1_v, if_pos rfl, i4_, lt1_v, if_pos rfl, i5_, lt1_v, if_neg oz, qr, lt12_t, if_neg oz]
      exact Or.inr ⟨g, P, hg, ⟨_, _, _, _, _, _, _, _, _, _, _, _, _, _, _, _, _, _, _, _, _, _, _, xc⟩, Or.inr ⟨_, _, _, _, _, _, _, _, _, _, _, _, _, _, _, _, xr, ur⟩⟩
  have i5_ : y_X12_isWord_5 kd' wd = 0 := by rw [isWord_v5, if_neg c5_]
  by_cases c6_ : kd' = 2 ∧ wd = wv 6
  · have i6_ : y_X12_isWord_6 kd' wd = 1 := by rw [isWord_v6, if_pos c6_]
    have hk : kd = 2 := by
      rcases h.kr with ⟨a, -, -⟩ | ⟨-, b⟩
      · exact a
      · exact absurd c6_.1 b
    rcases dent_line hn hl ha fa ft pl td t2_ (rd := rd) o1 h hk with ⟨p9, l9, b9, a9, k9, m9, t9, f9, q9, n9, s9, w9, v1, td', on', rd', t8, f8, q8, n8, s8, w8, u1, u2, u3, c0, qc, qr, ur, eo, eo', ev, H⟩ | ⟨g, P, hg, ⟨x2, x3, x4, x5, x6, x7, qc⟩, ⟨y0, y1, y2, y3, y4, y5, y6, y7, y8, qr⟩ | ⟨y0, y1, y2, y3, y4, y5, y6, y7, y8, t9, f9, q9, n9, s9, w9, qr, ur⟩⟩
    · have xc : y_X2_readLine t1_ t2_ (nI n) 0 fa lt (nI lm) bh av kd nm F (nI j) (nI f) (nI c) one dent sd N1 N2 tn N3 cf tu du pi le hd = (t1_, 1, 0, fa, l9, b9, a9, k9, m9, nI j, nI f, nI c, one, v1, sd, N1, N2, tn, N3, cf, tu, du, pi, le, hd) := by rw [y_X2_readLine_s, s0_, i0_, lt1_v, if_pos rfl, s2_, i2_, lt1_v, if_pos rfl, s3_, i3_, lt1_v, if_pos rfl, s4_, i4_, lt1_v, if_pos rfl, s5_, i5_, lt1_v, if_pos rfl, s6_, i6_, lt1_v, if_neg oz, qc, lt8_t]
      have xr : y_X12_readLine (nI n) (nI lm) to fr kd' nm' sg ft pl wd td on G rd M = (1, t8, f8, q8, n8, s8, ft, pl, w8, td', on', rd', M) := by rw [y_X12_readLine_s, i0_, lt1_v, if_pos rfl, i2_, lt1_v, if_pos rfl, i3_, lt1_v, if_pos rfl, i4_, lt1_v, if_pos rfl, i5_, lt1_v, if_pos rfl, i6_, lt1_v, if_neg oz, qr, lt12_t, if_neg oz]
      refine Or.inl ⟨p9, l9, b9, a9, k9, m9, t9, f9, q9, n9, s9, w9, j, f, c, one, v1, sd, t1_, 1, td', N1, N2, N3, pi, le, hd, tu, du, cf, tn, rd', M, on', t8, f8, q8, n8, s8, w8, u1, u2, u3, ⟨?_, ?_, ?_, ?_, ?_, ?_, ?_, ?_⟩, xc, xr, ur⟩
      · exact hN
      · exact ⟨(H (0) (by omega)).trans r0, (H (1) (by omega)).trans r1, (H (2) (by omega)).trans r2, (H (3) (by omega)).trans r3, ev, (H (35) (by omega)).trans r35⟩
      · exact fun k hk => ⟨(dj k hk).1.trans (H (5 + k) (by omega)).symm, (dj k hk).2.1.trans (H (15 + k) (by omega)).symm, (dj k hk).2.2.trans (H (25 + k) (by omega)).symm⟩
      · exact fun k hk => ⟨(df k hk).1.trans (H (36 + k) (by omega)).symm, (df k hk).2.trans (H (40 + k) (by omega)).symm⟩
      · exact fun k hk => (dc k hk).trans (H (44 + k) (by omega)).symm
      · exact fun k hk => (dt k hk).trans (H (49 + k) (by omega)).symm
      · exact eo'.trans o0
      · exact eo
    · have xc : y_X2_readLine t1_ t2_ (nI n) 0 fa lt (nI lm) bh av kd nm F (nI j) (nI f) (nI c) one dent sd N1 N2 tn N3 cf tu du pi le hd = (t1_, 1, g, P, x2, x3, x4, x5, x6, nI j, nI f, nI c, one, x7, sd, N1, N2, tn, N3, cf, tu, du, pi, le, hd) := by rw [y_X2_readLine_s, s0_, i0_, lt1_v, if_pos rfl, s2_, i2_, lt1_v, if_pos rfl, s3_, i3_, lt1_v, if_pos rfl, s4_, i4_, lt1_v, if_pos rfl, s5_, i5_, lt1_v, if_pos rfl, s6_, i6_, lt1_v, if_neg oz, qc, lt8_t]
      have xr : y_X12_readLine (nI n) (nI lm) to fr kd' nm' sg ft pl wd td on G rd M = (0, y0, y1, y2, y3, y4, g, P, y5, y6, y7, y8, M) := by rw [y_X12_readLine_s, i0_, lt1_v, if_pos rfl, i2_, lt1_v, if_pos rfl, i3_, lt1_v, if_pos rfl, i4_, lt1_v, if_pos rfl, i5_, lt1_v, if_pos rfl, i6_, lt1_v, if_neg oz, qr, lt12_t, if_pos rfl]
      exact Or.inr ⟨g, P, hg, ⟨_, _, _, _, _, _, _, _, _, _, _, _, _, _, _, _, _, _, _, _, _, _, _, xc⟩, Or.inl ⟨_, _, _, _, _, _, _, _, _, _, xr⟩⟩
    · have xc : y_X2_readLine t1_ t2_ (nI n) 0 fa lt (nI lm) bh av kd nm F (nI j) (nI f) (nI c) one dent sd N1 N2 tn N3 cf tu du pi le hd = (t1_, 1, g, P, x2, x3, x4, x5, x6, nI j, nI f, nI c, one, x7, sd, N1, N2, tn, N3, cf, tu, du, pi, le, hd) := by rw [y_X2_readLine_s, s0_, i0_, lt1_v, if_pos rfl, s2_, i2_, lt1_v, if_pos rfl, s3_, i3_, lt1_v, if_pos rfl, s4_, i4_, lt1_v, if_pos rfl, s5_, i5_, lt1_v, if_pos rfl, s6_, i6_, lt1_v, if_neg oz, qc, lt8_t]
      have xr : y_X12_readLine (nI n) (nI lm) to fr kd' nm' sg ft pl wd td on G rd M = (1, y0, y1, y2, y3, y4, ft, pl, y5, y6, y7, y8, M) := by rw [y_X12_readLine_s, i0_, lt1_v, if_pos rfl, i2_, lt1_v, if_pos rfl, i3_, lt1_v, if_pos rfl, i4_, lt1_v, if_pos rfl, i5_, lt1_v, if_pos rfl, i6_, lt1_v, if_neg oz, qr, lt12_t, if_neg oz]
      exact Or.inr ⟨g, P, hg, ⟨_, _, _, _, _, _, _, _, _, _, _, _, _, _, _, _, _, _, _, _, _, _, _, xc⟩, Or.inr ⟨_, _, _, _, _, _, _, _, _, _, _, _, _, _, _, _, xr, ur⟩⟩
  have i6_ : y_X12_isWord_6 kd' wd = 0 := by rw [isWord_v6, if_neg c6_]
  have h1 : ¬ (1 : Int32) = 0 := by decide
  have hb : y_X12_bad 1 kd' = (0, 1) := by rw [bad_v, ite_self]
  have xc : y_X2_readLine t1_ t2_ (nI n) 0 fa lt (nI lm) bh av kd nm F (nI j) (nI f) (nI c) one dent sd N1 N2 tn N3 cf tu du pi le hd = (t1_, t2_, 1, fr, 0, bh, av, 0, nm, nI j, nI f, nI c, one, dent, sd, N1, N2, tn, N3, cf, tu, du, pi, le, hd) := by rw [y_X2_readLine_s, s0_, i0_, lt1_v, if_pos rfl, s2_, i2_, lt1_v, if_pos rfl, s3_, i3_, lt1_v, if_pos rfl, s4_, i4_, lt1_v, if_pos rfl, s5_, i5_, lt1_v, if_pos rfl, s6_, i6_, lt1_v, if_pos rfl, fail0, lt4_t, h.1]
  have xr : y_X12_readLine (nI n) (nI lm) to fr kd' nm' sg ft pl wd td on G rd M = (0, to, fr, kd', nm', sg, 1, fr, wd, td, on, rd, M) := by rw [y_X12_readLine_s, i0_, lt1_v, if_pos rfl, i2_, lt1_v, if_pos rfl, i3_, lt1_v, if_pos rfl, i4_, lt1_v, if_pos rfl, i5_, lt1_v, if_pos rfl, i6_, lt1_v, if_pos rfl, hb, lt2_t]
  exact Or.inr ⟨1, fr, h1, ⟨_, _, _, _, _, _, _, _, _, _, _, _, _, _, _, _, _, _, _, _, _, _, _, xc⟩, Or.inl ⟨_, _, _, _, _, _, _, _, _, _, xr⟩⟩
theorem goesOn0 (kd : Int32) : y_X6_goesOn 0 kd = if kd = 1 then 0 else 1 := by
  rw [y_X6_goesOn_s, isBroken0, lt1_v, if_pos rfl]
theorem goesOn1 {g kd : Int32} (h : ¬ g = 0) : y_X6_goesOn g kd = 0 := by
  rw [y_X6_goesOn_s, isBroken1 h, lt1_v, if_neg oz]
theorem TR.ends {n p : Nat} {lt : Int64} {bh av kd nm to fr kd' nm' sg : Int32} {wd : Int64} (h : TR n p lt bh av kd nm to fr kd' nm' sg wd) : kd = 1 ↔ kd' = 0 := by
  obtain ⟨-, ⟨h1, h2, -⟩ | ⟨h1, h2, -⟩ | ⟨a, r, -, -, -, -, -, -, h⟩⟩ := h
  · subst h1; subst h2; exact ⟨fun _ => rfl, fun _ => rfl⟩
  · subst h1; subst h2; exact ⟨fun z => absurd z (by decide), fun z => absurd z (by decide)⟩
  · rcases h with ⟨z1, z2, -⟩ | ⟨z1, z2, -⟩ | ⟨z1, z2, -⟩
    · subst z1; subst z2; exact ⟨fun z => absurd z (by decide), fun z => absurd z (by decide)⟩
    · subst z1; subst z2; exact ⟨fun z => absurd z (by decide), fun z => absurd z (by decide)⟩
    · subst z2; exact ⟨fun z => absurd z (sgn_ne z1).2.2.1, fun z => absurd z (by decide)⟩
theorem lines_all {n : Nat} (hn : n ≤ 940) {F G : Nat → Int32} (ha : ∀ j, j < n → F j = G j) (now : Nat → Int32) (nam : Nat → Int64) (fa pl : Int32) : ∀ (u p li fc fr_ : Nat) (lt : Int64) (bh av kd nm to fr kd' nm' sg : Int32) (wd : Int64) (j f c : Nat) (one dent sd t1_ t2_ td : Int32) (N1 N2 N3 : Nat → Int64) (pi le hd tu du cf tn rd : Nat → Int32) (M : Nat → Int64) (on : Nat → Int32), n ≤ p + 2 * u + 1 → p ≤ n → 2 * li ≤ p → u + 1 < fc → u < fr_ → DR j f c one dent sd t1_ t2_ N1 N2 N3 pi le hd tu du cf tn rd M on → TR n p lt bh av kd nm to fr kd' nm' sg wd →
    (∃ (li9 j9 f9_ c9 : Nat) (one9 dent9 sd9 t19 t29 : Int32) (N19 N29 N39 : Nat → Int64) (pi9 le9 hd9 tu9 du9 cf9 tn9 rd9 : Nat → Int32) (M9 : Nat → Int64) (on9 : Nat → Int32) (l9 : Int64) (b9 a9 k9 m9 : Int32), DR j9 f9_ c9 one9 dent9 sd9 t19 t29 N19 N29 N39 pi9 le9 hd9 tu9 du9 cf9 tn9 rd9 M9 on9 ∧ y_X2_readLines_29 (nI n) F fc (nI li) t1_ t2_ (nI j) (nI f) (nI c) one dent sd tn 0 fa lt bh av kd nm N1 N2 N3 cf tu du pi le hd = (nI li9, t19, t29, nI j9, nI f9_, nI c9, one9, dent9, sd9, tn9, 0, fa, l9, b9, a9, k9, m9, N19, N29, N39, cf9, tu9, du9, pi9, le9, hd9) ∧ y_X12_court_13 (nI n) G now nam fr_ (nI li) to fr kd' nm' sg 0 pl wd td rd on M = y_X12_court_49 nam 90 (nI li9) 0 0 rd9 M9 now) ∨ (∃ g P : Int32, ¬ g = 0 ∧ (∃ x0 x1 x2 x3 x4 x5 x6 x7 x8 x9 x10 x11 x12 x13 x14 x15 x16 x17 x18 x19 x20 x21 x22 x23, y_X2_readLines_29 (nI n) F fc (nI li) t1_ t2_ (nI j) (nI f) (nI c) one dent sd tn 0 fa lt bh av kd nm N1 N2 N3 cf tu du pi le hd = (x0, x1, x2, x3, x4, x5, x6, x7, x8, x9, g, P, x10, x11, x12, x13, x14, x15, x16, x17, x18, x19, x20, x21, x22, x23)) ∧ y_X12_court_13 (nI n) G now nam fr_ (nI li) to fr kd' nm' sg 0 pl wd td rd on M = ((-1) - P, g, now, nam)) := by
  intro u
  induction u with
  | zero =>
    intro p li fc fr_ lt bh av kd nm to fr kd' nm' sg wd j f c one dent sd t1_ t2_ td N1 N2 N3 pi le hd tu du cf tn rd M on hu hp hli hfc hfr d h
    obtain ⟨fc, rfl⟩ : ∃ k, fc = k + 1 := ⟨fc - 1, by omega⟩
    obtain ⟨fr_, rfl⟩ : ∃ k, fr_ = k + 1 := ⟨fr_ - 1, by omega⟩
    have h9 : ¬ (900 : Int32) ≤ nI li := nI_ge (b := 900) (by omega) (by omega)
    by_cases k1 : kd = 1
    · have k2 : kd' = 0 := h.ends.mp k1
      have qc : y_X2_readLines_29 (nI n) F (fc + 1) (nI li) t1_ t2_ (nI j) (nI f) (nI c) one dent sd tn 0 fa lt bh av kd nm N1 N2 N3 cf tu du pi le hd = (nI li, t1_, t2_, nI j, nI f, nI c, one, dent, sd, tn, 0, fa, lt, bh, av, kd, nm, N1, N2, N3, cf, tu, du, pi, le, hd) := by rw [y_X2_readLines_29_s, if_neg h9, goesOn0, lt1_v, if_pos k1, if_pos rfl]
      have qr : y_X12_court_13 (nI n) G now nam (fr_ + 1) (nI li) to fr kd' nm' sg 0 pl wd td rd on M = y_X12_court_49 nam 90 (nI li) 0 0 rd M now := by rw [y_X12_court_13_s, if_pos k2]
      exact Or.inl ⟨li, j, f, c, one, dent, sd, t1_, t2_, N1, N2, N3, pi, le, hd, tu, du, cf, tn, rd, M, on, lt, bh, av, kd, nm, d, qc, qr⟩
    · have k2 : ¬ kd' = 0 := fun z => k1 (h.ends.mpr z)
      rcases line_all (lm := 900) hn (by omega) ha fa 0 pl td d h k1 with ⟨p9, l9, b9, a9, k9, m9, t9, f9, q9, n9, s9, w9, j9, f9_, c9, one9, dent9, sd9, t19, t29, td9, N19, N29, N39, pi9, le9, hd9, tu9, du9, cf9, tn9, rd9, M9, on9, t8, f8, q8, n8, s8, w8, u1, u2, u3, d9, qc, qr, ur⟩ | ⟨g, P, hg, ⟨x0, x1, x2, x3, x4, x5, x6, x7, x8, x9, x10, x11, x12, x13, x14, x15, x16, x17, x18, x19, x20, x21, x22, qc⟩, hrr⟩
      · exact absurd u1 (by omega)
      · obtain ⟨fc, rfl⟩ : ∃ k, fc = k + 1 := ⟨fc - 1, by omega⟩
        have h9' : ¬ (900 : Int32) ≤ nI (li + 1) := nI_ge (b := 900) (by omega) (by omega)
        have qc2 : y_X2_readLines_29 (nI n) F (fc + 1 + 1) (nI li) t1_ t2_ (nI j) (nI f) (nI c) one dent sd tn 0 fa lt bh av kd nm N1 N2 N3 cf tu du pi le hd = (nI (li + 1), x0, x1, x7, x8, x9, x10, x11, x12, x15, g, P, x2, x3, x4, x5, x6, x13, x14, x16, x17, x18, x19, x20, x21, x22) := by rw [y_X2_readLines_29_s, if_neg h9, goesOn0, lt1_v, if_neg k1, if_neg oz, show (900 : Int32) = nI 900 from rfl, qc, lt25_t, lt1_v, nI_1, y_X2_readLines_29_s, if_neg h9', goesOn1 hg, lt1_v, if_pos rfl]
        refine Or.inr ⟨g, P, hg, ⟨_, _, _, _, _, _, _, _, _, _, _, _, _, _, _, _, _, _, _, _, _, _, _, _, qc2⟩, ?_⟩
        rcases hrr with ⟨y0, y1, y2, y3, y4, y5, y6, y7, y8, y9, qr⟩ | ⟨y0, y1, y2, y3, y4, y5, y6, y7, y8, y9, t9, f9, q9, n9, s9, w9, qr, ur⟩
        · rw [y_X12_court_13_s, if_neg k2, show (900 : Int32) = nI 900 from rfl, qr, lt13_t, if_pos rfl, lt1_v]
        · rw [y_X12_court_13_s, if_neg k2, show (900 : Int32) = nI 900 from rfl, qr, lt13_t, if_neg oz, ur, lt9_t, if_pos rfl, lt1_v]
  | succ u ih =>
    intro p li fc fr_ lt bh av kd nm to fr kd' nm' sg wd j f c one dent sd t1_ t2_ td N1 N2 N3 pi le hd tu du cf tn rd M on hu hp hli hfc hfr d h
    obtain ⟨fc, rfl⟩ : ∃ k, fc = k + 1 := ⟨fc - 1, by omega⟩
    obtain ⟨fr_, rfl⟩ : ∃ k, fr_ = k + 1 := ⟨fr_ - 1, by omega⟩
    have h9 : ¬ (900 : Int32) ≤ nI li := nI_ge (b := 900) (by omega) (by omega)
    by_cases k1 : kd = 1
    · have k2 : kd' = 0 := h.ends.mp k1
      have qc : y_X2_readLines_29 (nI n) F (fc + 1) (nI li) t1_ t2_ (nI j) (nI f) (nI c) one dent sd tn 0 fa lt bh av kd nm N1 N2 N3 cf tu du pi le hd = (nI li, t1_, t2_, nI j, nI f, nI c, one, dent, sd, tn, 0, fa, lt, bh, av, kd, nm, N1, N2, N3, cf, tu, du, pi, le, hd) := by rw [y_X2_readLines_29_s, if_neg h9, goesOn0, lt1_v, if_pos k1, if_pos rfl]
      have qr : y_X12_court_13 (nI n) G now nam (fr_ + 1) (nI li) to fr kd' nm' sg 0 pl wd td rd on M = y_X12_court_49 nam 90 (nI li) 0 0 rd M now := by rw [y_X12_court_13_s, if_pos k2]
      exact Or.inl ⟨li, j, f, c, one, dent, sd, t1_, t2_, N1, N2, N3, pi, le, hd, tu, du, cf, tn, rd, M, on, lt, bh, av, kd, nm, d, qc, qr⟩
    · have k2 : ¬ kd' = 0 := fun z => k1 (h.ends.mpr z)
      rcases line_all (lm := 900) hn (by omega) ha fa 0 pl td d h k1 with ⟨p9, l9, b9, a9, k9, m9, t9, f9, q9, n9, s9, w9, j9, f9_, c9, one9, dent9, sd9, t19, t29, td9, N19, N29, N39, pi9, le9, hd9, tu9, du9, cf9, tn9, rd9, M9, on9, t8, f8, q8, n8, s8, w8, u1, u2, u3, d9, qc, qr, ur⟩ | ⟨g, P, hg, ⟨x0, x1, x2, x3, x4, x5, x6, x7, x8, x9, x10, x11, x12, x13, x14, x15, x16, x17, x18, x19, x20, x21, x22, qc⟩, hrr⟩
      · have ec : y_X2_readLines_29 (nI n) F (fc + 1) (nI li) t1_ t2_ (nI j) (nI f) (nI c) one dent sd tn 0 fa lt bh av kd nm N1 N2 N3 cf tu du pi le hd = y_X2_readLines_29 (nI n) F fc (nI (li + 1)) t19 t29 (nI j9) (nI f9_) (nI c9) one9 dent9 sd9 tn9 0 fa l9 b9 a9 k9 m9 N19 N29 N39 cf9 tu9 du9 pi9 le9 hd9 := by rw [y_X2_readLines_29_s, if_neg h9, goesOn0, lt1_v, if_neg k1, if_neg oz, show (900 : Int32) = nI 900 from rfl, qc, lt25_t, lt1_v, nI_1]
        have er : y_X12_court_13 (nI n) G now nam (fr_ + 1) (nI li) to fr kd' nm' sg 0 pl wd td rd on M = y_X12_court_13 (nI n) G now nam fr_ (nI (li + 1)) t9 f9 q9 n9 s9 0 pl w9 td9 rd9 on9 M9 := by rw [y_X12_court_13_s, if_neg k2, show (900 : Int32) = nI 900 from rfl, qr, lt13_t, if_neg oz, ur, lt9_t, if_neg oz, lt1_v, nI_1]
        rw [ec, er]
        exact ih p9 (li + 1) fc fr_ _ _ _ _ _ _ _ _ _ _ _ _ _ _ _ _ _ _ _ _ _ _ _ _ _ _ _ _ _ _ _ _ _ (by omega) u2 (by omega) (by omega) (by omega) d9 u3
      · obtain ⟨fc, rfl⟩ : ∃ k, fc = k + 1 := ⟨fc - 1, by omega⟩
        have h9' : ¬ (900 : Int32) ≤ nI (li + 1) := nI_ge (b := 900) (by omega) (by omega)
        have qc2 : y_X2_readLines_29 (nI n) F (fc + 1 + 1) (nI li) t1_ t2_ (nI j) (nI f) (nI c) one dent sd tn 0 fa lt bh av kd nm N1 N2 N3 cf tu du pi le hd = (nI (li + 1), x0, x1, x7, x8, x9, x10, x11, x12, x15, g, P, x2, x3, x4, x5, x6, x13, x14, x16, x17, x18, x19, x20, x21, x22) := by rw [y_X2_readLines_29_s, if_neg h9, goesOn0, lt1_v, if_neg k1, if_neg oz, show (900 : Int32) = nI 900 from rfl, qc, lt25_t, lt1_v, nI_1, y_X2_readLines_29_s, if_neg h9', goesOn1 hg, lt1_v, if_pos rfl]
        refine Or.inr ⟨g, P, hg, ⟨_, _, _, _, _, _, _, _, _, _, _, _, _, _, _, _, _, _, _, _, _, _, _, _, qc2⟩, ?_⟩
        rcases hrr with ⟨y0, y1, y2, y3, y4, y5, y6, y7, y8, y9, qr⟩ | ⟨y0, y1, y2, y3, y4, y5, y6, y7, y8, y9, t9, f9, q9, n9, s9, w9, qr, ur⟩
        · rw [y_X12_court_13_s, if_neg k2, show (900 : Int32) = nI 900 from rfl, qr, lt13_t, if_pos rfl, lt1_v]
        · rw [y_X12_court_13_s, if_neg k2, show (900 : Int32) = nI 900 from rfl, qr, lt13_t, if_neg oz, ur, lt9_t, if_pos rfl, lt1_v]
theorem empty_v (f : Nat → Int32) : ∀ k, k < 40 → y_X5_empty f k = (-1) := by
  have key : ∀ (u i m : Nat) (g : Nat → Int32), i + u = 40 → u < m → (∀ k, k < i → g k = (-1)) → ∀ k, k < 40 → y_X5_empty_32 m (nI i) g k = (-1) := by
    intro u
    induction u with
    | zero =>
      intro i m g h1 h2 h3 k hk
      obtain ⟨m, rfl⟩ : ∃ z, m = z + 1 := ⟨m - 1, by omega⟩
      rw [y_X5_empty_32_s, if_pos (show (40 : Int32) ≤ nI i from nI_le (a := 40) (by omega) (by omega))]
      exact h3 k (by omega)
    | succ u ih =>
      intro i m g h1 h2 h3 k hk
      obtain ⟨m, rfl⟩ : ∃ z, m = z + 1 := ⟨m - 1, by omega⟩
      rw [y_X5_empty_32_s, if_neg (show ¬ (40 : Int32) ≤ nI i from nI_ge (b := 40) (by omega) (by omega))]
      simp only [lt1, nI_clamp (show i < 2 ^ 31 by omega), nI_1]
      refine ih (i + 1) m _ (by omega) (by omega) (fun k hk => ?_) k hk
      by_cases e : k = i
      · subst e; rw [updI_s]
      · rw [updI_n e]; exact h3 k (by omega)
  rw [y_X5_empty_s]
  exact key 40 0 41 f (by omega) (by omega) (fun k hk => absurd hk (by omega))
theorem startRead_v (rd on : Nat → Int32) : ∃ (rd0 on0 : Nat → Int32), y_X12_startRead rd on = (rd0, on0) ∧ on0 0 = 0 ∧ on0 1 = 0 ∧ rd0 0 = 0 ∧ rd0 1 = 0 ∧ rd0 2 = 0 ∧ rd0 3 = 3 ∧ rd0 4 = 1 ∧ rd0 35 = 0 ∧ ∀ k, k < 40 → rd0 (49 + k) = (-1) := by
  have key2 : ∀ (u i m : Nat) (g : Nat → Int32), i + u = 89 → 49 ≤ i → u < m → (∀ k, k < 49 → g k = 0) → (∀ k, 49 ≤ k → k < i → g k = (-1)) → ∃ (rd0 on0 : Nat → Int32), y_X12_startRead_24 on m (nI i) g = (rd0, on0) ∧ on0 0 = 0 ∧ on0 1 = 0 ∧ rd0 0 = 0 ∧ rd0 1 = 0 ∧ rd0 2 = 0 ∧ rd0 3 = 3 ∧ rd0 4 = 1 ∧ rd0 35 = 0 ∧ ∀ k, k < 40 → rd0 (49 + k) = (-1) := by
    intro u
    induction u with
    | zero =>
      intro i m g h1 h0 h2 h3 h4
      obtain ⟨m, rfl⟩ : ∃ z, m = z + 1 := ⟨m - 1, by omega⟩
      have z3 : (3 : Int32).toNatClampNeg = 3 := by decide
      have z4 : (4 : Int32).toNatClampNeg = 4 := by decide
      have z0 : (0 : Int32).toNatClampNeg = 0 := by decide
      have z1 : (1 : Int32).toNatClampNeg = 1 := by decide
      refine ⟨upd (upd g 3 3) 4 1, upd (upd on 0 (vp_nar .boolean 0)) 1 (vp_nar .boolean 0), by rw [y_X12_startRead_24_s, if_pos (show (89 : Int32) ≤ nI i from nI_le (a := 89) (by omega) (by omega)), lt1_v, lt1_v, lt1_v, lt1_v, z0, z1, z3, z4], ?_, ?_, ?_, ?_, ?_, ?_, ?_, ?_, ?_⟩
      · rw [updI_n (show (0 : Nat) ≠ 1 by omega), updI_s]; decide +kernel
      · rw [updI_s]; decide +kernel
      · rw [updI_n (show (0 : Nat) ≠ 4 by omega), updI_n (show (0 : Nat) ≠ 3 by omega)]; exact h3 0 (by omega)
      · rw [updI_n (show (1 : Nat) ≠ 4 by omega), updI_n (show (1 : Nat) ≠ 3 by omega)]; exact h3 1 (by omega)
      · rw [updI_n (show (2 : Nat) ≠ 4 by omega), updI_n (show (2 : Nat) ≠ 3 by omega)]; exact h3 2 (by omega)
      · rw [updI_n (show (3 : Nat) ≠ 4 by omega), updI_s]
      · rw [updI_s]
      · rw [updI_n (show (35 : Nat) ≠ 4 by omega), updI_n (show (35 : Nat) ≠ 3 by omega)]; exact h3 35 (by omega)
      · intro k hk
        rw [updI_n (show 49 + k ≠ 4 by omega), updI_n (show 49 + k ≠ 3 by omega)]
        exact h4 (49 + k) (by omega) (by omega)
    | succ u ih =>
      intro i m g h1 h0 h2 h3 h4
      obtain ⟨m, rfl⟩ : ∃ z, m = z + 1 := ⟨m - 1, by omega⟩
      rw [y_X12_startRead_24_s, if_neg (show ¬ (89 : Int32) ≤ nI i from nI_ge (b := 89) (by omega) (by omega))]
      simp only [lt1, nI_clamp (show i < 2 ^ 31 by omega), nI_1]
      refine ih (i + 1) m _ (by omega) (by omega) (by omega) (fun k hk => ?_) (fun k hk1 hk2 => ?_)
      · rw [updI_n (by omega)]; exact h3 k hk
      · by_cases e : k = i
        · subst e; rw [updI_s]
        · rw [updI_n e]; exact h4 k hk1 (by omega)
  have key1 : ∀ (u i m : Nat) (g : Nat → Int32), i + u = 89 → u < m → (∀ k, k < i → g k = 0) → ∃ g0 : Nat → Int32, y_X12_startRead_2 on m (nI i) g = y_X12_startRead_24 on 41 49 g0 ∧ ∀ k, k < 89 → g0 k = 0 := by
    intro u
    induction u with
    | zero =>
      intro i m g h1 h2 h3
      obtain ⟨m, rfl⟩ : ∃ z, m = z + 1 := ⟨m - 1, by omega⟩
      exact ⟨g, by rw [y_X12_startRead_2_s, if_pos (show (89 : Int32) ≤ nI i from nI_le (a := 89) (by omega) (by omega))], fun k hk => h3 k (by omega)⟩
    | succ u ih =>
      intro i m g h1 h2 h3
      obtain ⟨m, rfl⟩ : ∃ z, m = z + 1 := ⟨m - 1, by omega⟩
      rw [y_X12_startRead_2_s, if_neg (show ¬ (89 : Int32) ≤ nI i from nI_ge (b := 89) (by omega) (by omega))]
      simp only [lt1, nI_clamp (show i < 2 ^ 31 by omega), nI_1]
      refine ih (i + 1) m _ (by omega) (by omega) (fun k hk => ?_)
      by_cases e : k = i
      · subst e; rw [updI_s]
      · rw [updI_n e]; exact h3 k (by omega)
  obtain ⟨g0, e1, e2⟩ := key1 89 0 90 rd (by omega) (by omega) (fun k hk => absurd hk (by omega))
  have e3 : y_X12_startRead rd on = y_X12_startRead_24 on 41 49 g0 := e1
  rw [e3]
  exact key2 40 49 41 g0 (by omega) (by omega) (by omega) (fun k hk => e2 k (by omega)) (fun k hk1 hk2 => absurd hk2 (by omega))
theorem courts {n : Nat} (hn : n ≤ 940) {F G : Nat → Int32} (ha : ∀ j, j < n → F j = G j) (now : Nat → Int32) (nam : Nat → Int64) (lt wd : Int64) (av kd nm nm' sg pl td : Int32) (N1 N2 N3 M : Nat → Int64) (pi le hd tu du cf tn rd on : Nat → Int32) :
    (∃ (li9 j9 f9_ c9 : Nat) (one9 dent9 sd9 t19 t29 : Int32) (N19 N29 N39 : Nat → Int64) (pi9 le9 hd9 tu9 du9 cf9 tn9 rd9 : Nat → Int32) (M9 : Nat → Int64) (on9 : Nat → Int32) (l9 : Int64) (b9 a9 k9 m9 : Int32), DR j9 f9_ c9 one9 dent9 sd9 t19 t29 N19 N29 N39 pi9 le9 hd9 tu9 du9 cf9 tn9 rd9 M9 on9 ∧ y_X2_readLines tn (nI n) lt av kd nm F N1 N2 N3 cf tu du pi le hd = (nI li9, t19, t29, nI j9, nI f9_, nI c9, one9, dent9, sd9, tn9, 0, 0, l9, b9, a9, k9, m9, N19, N29, N39, cf9, tu9, du9, pi9, le9, hd9) ∧ y_X12_court (nI n) nm' sg pl wd td G rd on M now nam = y_X12_court_49 nam 90 (nI li9) 0 0 rd9 M9 now) ∨ (∃ g P : Int32, ¬ g = 0 ∧ (∃ x0 x1 x2 x3 x4 x5 x6 x7 x8 x9 x10 x11 x12 x13 x14 x15 x16 x17 x18 x19 x20 x21 x22 x23, y_X2_readLines tn (nI n) lt av kd nm F N1 N2 N3 cf tu du pi le hd = (x0, x1, x2, x3, x4, x5, x6, x7, x8, x9, g, P, x10, x11, x12, x13, x14, x15, x16, x17, x18, x19, x20, x21, x22, x23)) ∧ y_X12_court (nI n) nm' sg pl wd td G rd on M now nam = ((-1) - P, g, now, nam)) := by
  obtain ⟨rd0, on0, e1, o0, o1, a0, a1, a2, a3, a4, a35, at'⟩ := startRead_v rd on
  have L := lex (p := 0) (lm := 900) (lt0 := lt) (av0 := av) (kd0 := kd) (nm0 := nm) (nr0 := nm') (sg0 := sg) (wd0 := wd) hn (by omega) (by omega) ha
  rcases e2 : y_X6_advance (nI n) 0 lt (nI 900) (nI 0) av kd nm F with ⟨l1, b1, a1', k1, m1⟩
  rcases e3 : y_X12_go (nI n) (nI 900) (nI 0) nm' sg wd G with ⟨t1, f1, q1, n1, s1, w1⟩
  rw [e2, e3] at L
  have d0 : DR 0 0 0 3 1 0 0 0 N1 N2 N3 pi le hd tu du cf (y_X5_empty tn) rd0 M on0 := ⟨⟨by omega, by omega, by omega, fun k hk => absurd hk (by omega), fun k hk => absurd hk (by omega), fun k hk => absurd hk (by omega)⟩, ⟨a0, a1, a2, a3, a4, a35⟩, fun k hk => absurd hk (by omega), fun k hk => absurd hk (by omega), fun k hk => absurd hk (by omega), fun k hk => (empty_v tn k hk).trans (at' k hk).symm, o0, o1⟩
  have ec : y_X2_readLines tn (nI n) lt av kd nm F N1 N2 N3 cf tu du pi le hd = y_X2_readLines_29 (nI n) F 901 (nI 0) 0 0 (nI 0) (nI 0) (nI 0) 3 1 0 (y_X5_empty tn) 0 0 l1 b1 a1' k1 m1 N1 N2 N3 cf tu du pi le hd := by
    rw [y_X2_readLines_s, lt1_v, y_X6_begin_s, show (900 : Int32) = nI 900 from rfl, show y_X6_advance (nI n) 0 lt (nI 900) 0 av kd nm F = (l1, b1, a1', k1, m1) from e2, lt5_t, lt5_t]; rfl
  have er : y_X12_court (nI n) nm' sg pl wd td G rd on M now nam = y_X12_court_13 (nI n) G now nam 2830 (nI 0) t1 f1 q1 n1 s1 0 pl w1 td rd0 on0 M := by
    rw [y_X12_court_s, y_X12_begin_s, lt1_v, show (900 : Int32) = nI 900 from rfl, show y_X12_go (nI n) (nI 900) 0 nm' sg wd G = (t1, f1, q1, n1, s1, w1) from e3, lt6_t, lt6_t, e1, lt2_t]; rfl
  rw [ec, er]
  exact lines_all hn ha now nam 0 pl 470 0 0 901 2830 _ _ _ _ _ _ _ _ _ _ _ _ _ _ _ _ _ _ _ _ _ _ _ _ _ _ _ _ _ _ _ _ _ (by omega) (by omega) (by omega) (by omega) (by omega) d0 L
theorem startSo_v (f : Nat → Int32) : ∀ k, k < 89 → y_X12_startSo f k = f k := by
  have k39 : ∀ (u i m : Nat) (g : Nat → Int32), i + u = 5 → u < m → ∀ k, k < 89 → y_X12_startSo_39 m (nI i) g k = g k := by
    intro u
    induction u with
    | zero =>
      intro i m g h1 h2 k hk
      obtain ⟨m, rfl⟩ : ∃ z, m = z + 1 := ⟨m - 1, by omega⟩
      rw [y_X12_startSo_39_s, if_pos (show (5 : Int32) ≤ nI i from nI_le (a := 5) (by omega) (by omega))]
    | succ u ih =>
      intro i m g h1 h2 k hk
      obtain ⟨m, rfl⟩ : ∃ z, m = z + 1 := ⟨m - 1, by omega⟩
      rw [y_X12_startSo_39_s, if_neg (show ¬ (5 : Int32) ≤ nI i from nI_ge (b := 5) (by omega) (by omega)), lt1_v, lt1_v, lt1_v, show (119 : Int32) + nI i = nI (119 + i) from nI_add 119 i, nI_clamp (by omega), nI_1]
      exact (ih (i + 1) m _ (by omega) (by omega) k hk).trans (updI_n (by omega))
  have k3 : ∀ (u i m : Nat) (g : Nat → Int32), i + u = 376 → 89 ≤ i → u < m → ∀ k, k < 89 → y_X12_startSo_3 m (nI i) g k = g k := by
    intro u
    induction u with
    | zero =>
      intro i m g h1 h0 h2 k hk
      obtain ⟨m, rfl⟩ : ∃ z, m = z + 1 := ⟨m - 1, by omega⟩
      rw [y_X12_startSo_3_s, if_pos (show (376 : Int32) ≤ nI i from nI_le (a := 376) (by omega) (by omega)), lt1_v, lt1_v, show (90 : Int32).toNatClampNeg = 90 from by decide]
      exact (k39 5 0 6 _ (by omega) (by omega) k hk).trans (updI_n (by omega))
    | succ u ih =>
      intro i m g h1 h0 h2 k hk
      obtain ⟨m, rfl⟩ : ∃ z, m = z + 1 := ⟨m - 1, by omega⟩
      rw [y_X12_startSo_3_s, if_neg (show ¬ (376 : Int32) ≤ nI i from nI_ge (b := 376) (by omega) (by omega)), lt1_v, lt1_v, nI_clamp (by omega), nI_1]
      exact (ih (i + 1) m _ (by omega) (by omega) (by omega) k hk).trans (updI_n (by omega))
  intro k hk
  rw [y_X12_startSo_s]
  exact k3 287 89 288 f (by omega) (by omega) (by omega) k hk
theorem court_75_v (li ft : Int32) : ∀ (u i m : Nat) (M nam : Nat → Int64) (now : Nat → Int32), i + u = 19 → u < m → (∀ k, k < i → nam k = M k) → ∃ A : Nat → Int64, y_X12_court_75 m li (nI i) ft M now nam = (li, ft, y_X12_startSo now, A) ∧ ∀ k, k < 19 → A k = M k := by
  intro u
  induction u with
  | zero =>
    intro i m M nam now h1 h2 h3
    obtain ⟨m, rfl⟩ : ∃ z, m = z + 1 := ⟨m - 1, by omega⟩
    refine ⟨nam, ?_, fun k hk => h3 k (by omega)⟩
    rw [y_X12_court_75_s, if_pos (show (19 : Int32) ≤ nI i from nI_le (a := 19) (by omega) (by omega)), lt1_v]
  | succ u ih =>
    intro i m M nam now h1 h2 h3
    obtain ⟨m, rfl⟩ : ∃ z, m = z + 1 := ⟨m - 1, by omega⟩
    rw [y_X12_court_75_s, if_neg (show ¬ (19 : Int32) ≤ nI i from nI_ge (b := 19) (by omega) (by omega)), lt1_v, lt1_v, lt1_v, nI_clamp (show i < 2 ^ 31 by omega), nI_1]
    refine ih (i + 1) m _ _ _ (by omega) (by omega) (fun k hk => ?_)
    by_cases e : k = i
    · subst e; rw [updL_s]
    · rw [updL_n e]; exact h3 k (by omega)
theorem court_49_v (nam : Nat → Int64) (li ft : Int32) : ∀ (u i m : Nat) (rd : Nat → Int32) (M : Nat → Int64) (now : Nat → Int32), i + u = 89 → u < m → (∀ k, k < i → now k = rd k) → ∃ (N : Nat → Int32) (A : Nat → Int64), y_X12_court_49 nam m li (nI i) ft rd M now = (li, ft, N, A) ∧ (∀ k, k < 89 → N k = rd k) ∧ ∀ k, k < 19 → A k = M k := by
  intro u
  induction u with
  | zero =>
    intro i m rd M now h1 h2 h3
    obtain ⟨m, rfl⟩ : ∃ z, m = z + 1 := ⟨m - 1, by omega⟩
    obtain ⟨A, e1, e2⟩ := court_75_v li ft 19 0 20 M nam now (by omega) (by omega) (fun k hk => absurd hk (by omega))
    refine ⟨y_X12_startSo now, A, ?_, fun k hk => (startSo_v now k hk).trans (h3 k (by omega)), e2⟩
    rw [y_X12_court_49_s, if_pos (show (89 : Int32) ≤ nI i from nI_le (a := 89) (by omega) (by omega))]
    exact e1
  | succ u ih =>
    intro i m rd M now h1 h2 h3
    obtain ⟨m, rfl⟩ : ∃ z, m = z + 1 := ⟨m - 1, by omega⟩
    rw [y_X12_court_49_s, if_neg (show ¬ (89 : Int32) ≤ nI i from nI_ge (b := 89) (by omega) (by omega)), lt1_v, lt1_v, lt1_v, nI_clamp (show i < 2 ^ 31 by omega), nI_1]
    refine ih (i + 1) m _ _ _ (by omega) (by omega) (fun k hk => ?_)
    by_cases e : k = i
    · subst e; rw [updI_s]
    · rw [updI_n e]; exact h3 k (by omega)
def tieN (o : Nat) (j f c : Int32) (N1 N2 N3 M : Nat → Int64) : Prop :=
  (∀ k : Nat, k < 10 → (k : Int) < j.toInt → wr (N1 k) (M (o + k))) ∧ (∀ k : Nat, k < 4 → (k : Int) < f.toInt → wr (N2 k) (M (o + 10 + k))) ∧ (∀ k : Nat, k < 5 → (k : Int) < c.toInt → wr (N3 k) (M (o + 14 + k)))
def tieL (o : Nat) (j f c a b : Int32) (L D N : Nat → Int32) : Prop :=
  j = N o ∧ f = N (o + 1) ∧ c = N (o + 2) ∧ a = N (o + 3) ∧ b = N (o + 4) ∧ (∀ k : Nat, k < 10 → (k : Int) < j.toInt → L k = N (o + 15 + k)) ∧ (∀ k : Nat, k < 4 → (k : Int) < f.toInt → D k = N (o + 40 + k))
theorem cpy_in {T : Type} {f g : Nat → T} {n k : Nat} (h : k < n) : va_cpy f g 0 0 n k = f k := by
  unfold va_cpy
  rw [if_pos ⟨Nat.zero_le _, by omega⟩, Nat.sub_zero, Nat.zero_add]
theorem cpy10 {T : Type} {f g : Nat → T} {k : Nat} (h : k < 10) : va_cpy f g (0 : Int32).toNatClampNeg (0 : Int32).toNatClampNeg (10 : Int32).toNatClampNeg k = f k := by
  rw [show (0 : Int32).toNatClampNeg = 0 from by decide, show (10 : Int32).toNatClampNeg = 10 from by decide]; exact cpy_in h
theorem cpy4 {T : Type} {f g : Nat → T} {k : Nat} (h : k < 4) : va_cpy f g (0 : Int32).toNatClampNeg (0 : Int32).toNatClampNeg (4 : Int32).toNatClampNeg k = f k := by
  rw [show (0 : Int32).toNatClampNeg = 0 from by decide, show (4 : Int32).toNatClampNeg = 4 from by decide]; exact cpy_in h
theorem cpy5 {T : Type} {f g : Nat → T} {k : Nat} (h : k < 5) : va_cpy f g (0 : Int32).toNatClampNeg (0 : Int32).toNatClampNeg (5 : Int32).toNatClampNeg k = f k := by
  rw [show (0 : Int32).toNatClampNeg = 0 from by decide, show (5 : Int32).toNatClampNeg = 5 from by decide]; exact cpy_in h
theorem court_eq {n : Nat} (hn : n ≤ 940) {F G : Nat → Int32} (ha : ∀ j, j < n → F j = G j) (now : Nat → Int32) (nam : Nat → Int64) (lt wd : Int64) (av kd nm nm' sg pl td lj lf lc lo ld : Int32) (N1 N2 N3 M L1 L2 L3 : Nat → Int64) (pi le hd tu du cf tn rd on lp ll lh ltu ldu lcf ltn : Nat → Int32) : ∃ (r k j f c a b : Int32) (A1 A2 A3 : Nat → Int64) (L D N : Nat → Int32) (A : Nat → Int64), y_X11_court tn (nI n) lt av kd nm F N1 N2 N3 cf tu du pi le hd lj lf lc lo ld L1 L2 L3 lp ll lh ltu ldu lcf ltn = (r, k, j, f, c, a, b, A1, A2, A3, L, D) ∧ y_X12_court (nI n) nm' sg pl wd td G rd on M now nam = (r, k, N, A) ∧ (tieL 0 lj lf lc lo ld ll ldu now → tieL 0 j f c a b L D N) ∧ (tieN 0 lj lf lc L1 L2 L3 nam → tieN 0 j f c A1 A2 A3 A) := by
  rcases courts hn ha now nam lt wd av kd nm nm' sg pl td N1 N2 N3 M pi le hd tu du cf tn rd on with ⟨li9, j9, f9_, c9, one9, dent9, sd9, t19, t29, N19, N29, N39, pi9, le9, hd9, tu9, du9, cf9, tn9, rd9, M9, on9, l9, b9, a9, k9, m9, d, qc, qr⟩ | ⟨g, P, hg, ⟨x0, x1, x2, x3, x4, x5, x6, x7, x8, x9, x10, x11, x12, x13, x14, x15, x16, x17, x18, x19, x20, x21, x22, x23, qc⟩, qr⟩
  · obtain ⟨N, A, e1, e2, e3⟩ := court_49_v nam (nI li9) 0 89 0 90 rd9 M9 now (by omega) (by omega) (fun k hk => absurd hk (by omega))
    obtain ⟨hN, ⟨r0, r1, r2, r3, r4, r35⟩, dj, df, dc, dt, o0, o1⟩ := d
    obtain ⟨hj, hf, hc, w1, w2, w3⟩ := hN
    refine ⟨nI li9, 0, nI j9, nI f9_, nI c9, one9, dent9, (va_cpy N19 L1 (0 : Int32).toNatClampNeg (0 : Int32).toNatClampNeg (10 : Int32).toNatClampNeg), (va_cpy N29 L2 (0 : Int32).toNatClampNeg (0 : Int32).toNatClampNeg (4 : Int32).toNatClampNeg), (va_cpy N39 L3 (0 : Int32).toNatClampNeg (0 : Int32).toNatClampNeg (5 : Int32).toNatClampNeg), (va_cpy le9 ll (0 : Int32).toNatClampNeg (0 : Int32).toNatClampNeg (10 : Int32).toNatClampNeg), (va_cpy du9 ldu (0 : Int32).toNatClampNeg (0 : Int32).toNatClampNeg (4 : Int32).toNatClampNeg), N, A, ?_, qr.trans e1, fun _ => ⟨?_, ?_, ?_, ?_, ?_, fun k hk hk' => ?_, fun k hk hk' => ?_⟩, fun _ => ⟨fun k hk hk' => ?_, fun k hk hk' => ?_, fun k hk hk' => ?_⟩⟩
    · rw [y_X11_court_s, qc, lt26_t, isBroken0, lt1_v, if_pos rfl]; rfl
    · exact r0.symm.trans (e2 0 (by omega)).symm
    · exact r1.symm.trans (e2 1 (by omega)).symm
    · exact r2.symm.trans (e2 2 (by omega)).symm
    · exact r3.symm.trans (e2 3 (by omega)).symm
    · exact r4.symm.trans (e2 4 (by omega)).symm
    · rw [nI_toInt (by omega)] at hk'
      rw [cpy10 hk, (dj k (by omega)).2.1, show 0 + 15 + k = 15 + k from by omega]; exact (e2 (15 + k) (by omega)).symm
    · rw [nI_toInt (by omega)] at hk'
      rw [cpy4 hk, (df k (by omega)).2, show 0 + 40 + k = 40 + k from by omega]; exact (e2 (40 + k) (by omega)).symm
    · rw [nI_toInt (by omega)] at hk'
      rw [cpy10 hk, e3 (0 + k) (by omega)]; exact w1 k (by omega)
    · rw [nI_toInt (by omega)] at hk'
      rw [cpy4 hk, show 0 + 10 + k = 10 + k from by omega, e3 (10 + k) (by omega)]; exact w2 k (by omega)
    · rw [nI_toInt (by omega)] at hk'
      rw [cpy5 hk, show 0 + 14 + k = 14 + k from by omega, e3 (14 + k) (by omega)]; exact w3 k (by omega)
  · exact ⟨(-1) - P, g, lj, lf, lc, lo, ld, L1, L2, L3, ll, ldu, now, nam, by rw [y_X11_court_s, qc, lt26_t, isBroken1 hg, lt1_v, if_neg oz, lt1_v], qr, id, id⟩
