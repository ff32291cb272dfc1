theorem sent_79 (ft v : Int32) : ∀ (u i m : Nat), i + u = 240 → u < m → y_X12_sentence_79 m (nI i) ft v = (v, ft) := by
  intro u
  induction u with
  | zero =>
    intro i m h1 h2
    obtain ⟨m, rfl⟩ : ∃ z, m = z + 1 := ⟨m - 1, by omega⟩
    rw [y_X12_sentence_79_s, if_pos (show (240 : Int32) ≤ nI i from nI_le (a := 240) (by omega) (by omega))]
  | succ u ih =>
    intro i m h1 h2
    obtain ⟨m, rfl⟩ : ∃ z, m = z + 1 := ⟨m - 1, by omega⟩
    rw [y_X12_sentence_79_s, if_neg (show ¬ (240 : Int32) ≤ nI i from nI_ge (b := 240) (by omega) (by omega)), lt1_v, nI_1]
    exact ih (i + 1) m (by omega) (by omega)
theorem sent_eq {n : Nat} (hn : n ≤ 940) {F G : Nat → Int32} (ha : ∀ j, j < n → F j = G j) {j f : Nat} (hj : j ≤ 10) (hf : f ≤ 4) {N1 N2 M : Nat → Int64} (nr1 : NR 0 j N1 M) (nr2 : NR 10 f N2 M) {now : Nat → Int32} (w0 : now 0 = nI j) (w9 : now 1 = nI f) (lt wd : Int64) (av kd nm nm' sg pl td : Int32) : y_X11_sentence (nI n) lt av kd nm F (nI j) (nI f) N2 N1 = y_X12_sentence (nI n) nm' sg pl wd td G now M := by
  have L := lex (p := 0) (lm := 200) (lt0 := lt) (av0 := av) (kd0 := kd) (nm0 := nm) (nr0 := nm') (sg0 := sg) (wd0 := wd) hn (by omega) (by omega) ha
  rcases e2 : y_X6_advance (nI n) 0 lt (nI 200) (nI 0) av kd nm F with ⟨l1, b1, a1, k1, m1⟩
  rcases e3 : y_X12_go (nI n) (nI 200) (nI 0) nm' sg wd G with ⟨t1, f1, q1, n1, s1, w1⟩
  rw [e2, e3] at L
  have x2 : y_X6_advance (nI n) 0 lt 200 0 av kd nm F = (l1, b1, a1, k1, m1) := e2
  have x3 : y_X12_go (nI n) 200 0 nm' sg wd G = (t1, f1, q1, n1, s1, w1) := e3
  rcases cond_1 hn (lm := 200) (by omega) ha hj hf nr1 nr2 w0 w9 (o := 0) 0 0 pl td (by omega) L with ⟨p9, o9, l9, b9, a9, k9, m9, t9, f9, q9, n9, s9, v9, td9, u3, u4, u5, qc1, qr1⟩ | ⟨g, P, hg, ⟨y0, y1, y2, y3, qc1⟩, z0, z1, z2, z3, z4, z5, z6, z7, qr1⟩
  · have qc2 : y_X8_readCond_1 0 (nI n) 0 0 l1 200 b1 a1 k1 m1 F (nI j) (nI f) N2 N1 = (nI o9, 0, 0, l9, b9, a9, k9, m9) := qc1
    have qr2 : y_X12_readOr_0 (nI n) 200 t1 f1 q1 n1 s1 0 pl w1 td 0 G now M = (1, t9, f9, q9, n9, s9, 0, pl, v9, td9, nI o9) := qr1
    by_cases c : k9 = 1
    · have c' : q9 = 0 := u5.ends.mp c
      have hc : y_X11_sentence (nI n) lt av kd nm F (nI j) (nI f) N2 N1 = (nI o9, 0) := by rw [y_X11_sentence_s, y_X8_begin_s, y_X6_begin_s, x2, lt5_t, lt5_t, lt5_t, qc2, lt8_t, y_X8_finish_s, goesOn0, if_pos c, lt1_v, if_pos rfl, y_X8_finish_18_s, lt4_t, isBroken0, lt1_v, if_pos rfl]
      have hr : y_X12_sentence (nI n) nm' sg pl wd td G now M = (nI o9, 0) := by rw [y_X12_sentence_s, y_X12_begin_s, lt1_v, x3, lt6_t, lt6_t, qr2, lt11_t, if_neg oz, if_pos c']; exact sent_79 0 (nI o9) 240 0 241 (by omega) (by omega)
      rw [hc, hr]
    · have c' : ¬ q9 = 0 := fun z => c (u5.ends.mpr z)
      have hf9 : y_X8_finish 0 0 l9 a9 k9 = (1, a9, 0, 0) := by rw [y_X8_finish_s, goesOn0, if_neg c, lt1_v, if_neg oz, fail0, lt4_t, y_X8_finish_18_s]
      have hc : y_X11_sentence (nI n) lt av kd nm F (nI j) (nI f) N2 N1 = ((-1) - a9, 1) := by rw [y_X11_sentence_s, y_X8_begin_s, y_X6_begin_s, x2, lt5_t, lt5_t, lt5_t, qc2, lt8_t, hf9, lt4_t, isBroken1 oz, lt1_v, if_neg oz, lt1_v]
      have hr : y_X12_sentence (nI n) nm' sg pl wd td G now M = ((-1) - f9, 1) := by rw [y_X12_sentence_s, y_X12_begin_s, lt1_v, x3, lt6_t, lt6_t, qr2, lt11_t, if_neg oz, if_neg c', bad_v, ite_self, lt2_t, lt1_v]
      rw [hc, hr, u5.1]
  · have qc2 : y_X8_readCond_1 0 (nI n) 0 0 l1 200 b1 a1 k1 m1 F (nI j) (nI f) N2 N1 = (y0, g, P, 0, y1, y2, 0, y3) := qc1
    have qr2 : y_X12_readOr_0 (nI n) 200 t1 f1 q1 n1 s1 0 pl w1 td 0 G now M = (0, z0, z1, z2, z3, z4, g, P, z5, z6, z7) := qr1
    have hc : y_X11_sentence (nI n) lt av kd nm F (nI j) (nI f) N2 N1 = ((-1) - P, g) := by rw [y_X11_sentence_s, y_X8_begin_s, y_X6_begin_s, x2, lt5_t, lt5_t, lt5_t, qc2, lt8_t, y_X8_finish_s, goesOn1 hg, lt1_v, if_pos rfl, y_X8_finish_18_s, lt4_t, isBroken1 hg, lt1_v, if_neg oz, lt1_v]
    have hr : y_X12_sentence (nI n) nm' sg pl wd td G now M = ((-1) - P, g) := by rw [y_X12_sentence_s, y_X12_begin_s, lt1_v, x3, lt6_t, lt6_t, qr2, lt11_t, if_pos rfl, lt1_v]
    rw [hc, hr]
