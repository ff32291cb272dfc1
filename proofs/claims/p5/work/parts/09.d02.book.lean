def bkR (n lm : Int32) (G now : Nat → Int32) (M : Nat → Int64) : Nat → Int32 → Int32 → Int32 → Int32 → Int32 → Int32 → Int32 → Int32 → Int64 → Int32 → Int32
 | 0, _, _, _, _, _, _, _, _, _, _ => 0
 | m + 1, li, to, fr, kd, nm, sg, ft, pl, wd, td => if kd = 0 then ft else lt10 (y_X12_readBookLine n lm to fr kd nm sg ft pl wd td li now M G) fun (r : Int32) (t1 : Int32) (f1 : Int32) (k1 : Int32) (n1 : Int32) (s1 : Int32) (g1 : Int32) (p1 : Int32) (w1 : Int64) (d1 : Int32) => if r = 0 then g1 else bkR n lm G now M m (li + 1) t1 f1 k1 n1 s1 g1 p1 w1 d1
theorem bkR_s (n lm : Int32) (G now : Nat → Int32) (M : Nat → Int64) (m : Nat) (li to fr kd nm sg ft pl : Int32) (wd : Int64) (td : Int32) : bkR n lm G now M (m + 1) li to fr kd nm sg ft pl wd td = if kd = 0 then ft else lt10 (y_X12_readBookLine n lm to fr kd nm sg ft pl wd td li now M G) fun (r : Int32) (t1 : Int32) (f1 : Int32) (k1 : Int32) (n1 : Int32) (s1 : Int32) (g1 : Int32) (p1 : Int32) (w1 : Int64) (d1 : Int32) => if r = 0 then g1 else bkR n lm G now M m (li + 1) t1 f1 k1 n1 s1 g1 p1 w1 d1 := rfl
theorem book_loop {n : Nat} (hn : n ≤ 940) {F G : Nat → Int32} (ha : ∀ j, j < n → F j = G j) {j c : Nat} (hj : j ≤ 10) (hc : c ≤ 5) {N1 N3 M : Nat → Int64} (nr1 : NR 0 j N1 M) (nr3 : NR 14 c N3 M) {now : Nat → Int32} (w0 : now 0 = nI j) (w2_ : now 2 = nI c) : ∀ (u : Nat) {p o mc mr : Nat} {lt : Int64} {bh av kd nm to fr kd' nm' sg : Int32} {wd : Int64} (fa pl td : Int32), 40 ≤ o + u → o ≤ 40 → u + 1 < mc → u < mr → TR n p lt bh av kd nm to fr kd' nm' sg wd → (y_X1_readLines_17 (nI n) F (nI j) (nI c) N1 N3 mc (nI o) (nI o) 0 fa lt bh av kd nm).2.1 = bkR (nI n) 400 G now M mr (nI o) to fr kd' nm' sg 0 pl wd td := by
  intro u
  induction u with
  | zero =>
    intro p o mc mr lt bh av kd nm to fr kd' nm' sg wd fa pl td h1 h2 h4 h5 h
    obtain ⟨mc, rfl⟩ : ∃ z, mc = z + 1 := ⟨mc - 1, by omega⟩
    obtain ⟨mr, rfl⟩ : ∃ z, mr = z + 1 := ⟨mr - 1, by omega⟩
    have hi : ¬ (40 : Int32) < nI o := nlt.mpr (show nI o ≤ (40 : Int32) from nI_le (b := 40) h2 (by omega))
    by_cases k1 : kd = 1
    · have k2 : kd' = 0 := h.ends.mp k1
      rw [y_X1_readLines_17_s, if_neg hi, goesOn0, if_pos k1, lt1_v, if_pos rfl, bkR_s, if_pos k2]
    · have k2 : ¬ kd' = 0 := fun z => k1 (h.ends.mpr z)
      rcases book_line (lm := 400) hn (by omega) ha hj hc nr1 nr3 w0 w2_ fa 0 pl td h2 h with ⟨p9, l9, b9, a9, k9, m9, t9, f9, q9, n9, s9, v9, td9, u0, u5, qc, qr⟩ | ⟨g, P, hg, ⟨x0, x1, x2, x3, qc⟩, y0, y1, y2, y3, y4, y5, y6, qr⟩
      · have q1' : y_X1_readLine (nI o) (nI n) 0 fa lt 400 bh av kd nm (nI j) (nI c) N1 F N3 = (nI (o + 1), 0, fa, l9, b9, a9, k9, m9) := qc
        have q2' : y_X12_readBookLine (nI n) 400 to fr kd' nm' sg 0 pl wd td (nI o) now M G = (1, t9, f9, q9, n9, s9, 0, pl, v9, td9) := qr
        exact absurd u0 (by omega)
      · have q1' : y_X1_readLine (nI o) (nI n) 0 fa lt 400 bh av kd nm (nI j) (nI c) N1 F N3 = (x0, g, P, 0, x1, x2, 0, x3) := qc
        have q2' : y_X12_readBookLine (nI n) 400 to fr kd' nm' sg 0 pl wd td (nI o) now M G = (0, y0, y1, y2, y3, y4, g, P, y5, y6) := qr
        obtain ⟨mc, rfl⟩ : ∃ z, mc = z + 1 := ⟨mc - 1, by omega⟩
        have ec : (y_X1_readLines_17 (nI n) F (nI j) (nI c) N1 N3 (mc + 1 + 1) (nI o) (nI o) 0 fa lt bh av kd nm).2.1 = g := by
          rw [y_X1_readLines_17_s, if_neg hi, goesOn0, if_neg k1, lt1_v, if_neg oz, q1', lt8_t, lt1_v, nI_1, y_X1_readLines_17_s]
          by_cases z : (40 : Int32) < nI (o + 1)
          · rw [if_pos z]
          · rw [if_neg z, goesOn1 hg, lt1_v, if_pos rfl]
        rw [ec, bkR_s, if_neg k2, q2', lt10_t, if_pos rfl]
  | succ u ih =>
    intro p o mc mr lt bh av kd nm to fr kd' nm' sg wd fa pl td h1 h2 h4 h5 h
    obtain ⟨mc, rfl⟩ : ∃ z, mc = z + 1 := ⟨mc - 1, by omega⟩
    obtain ⟨mr, rfl⟩ : ∃ z, mr = z + 1 := ⟨mr - 1, by omega⟩
    have hi : ¬ (40 : Int32) < nI o := nlt.mpr (show nI o ≤ (40 : Int32) from nI_le (b := 40) h2 (by omega))
    by_cases k1 : kd = 1
    · have k2 : kd' = 0 := h.ends.mp k1
      rw [y_X1_readLines_17_s, if_neg hi, goesOn0, if_pos k1, lt1_v, if_pos rfl, bkR_s, if_pos k2]
    · have k2 : ¬ kd' = 0 := fun z => k1 (h.ends.mpr z)
      rcases book_line (lm := 400) hn (by omega) ha hj hc nr1 nr3 w0 w2_ fa 0 pl td h2 h with ⟨p9, l9, b9, a9, k9, m9, t9, f9, q9, n9, s9, v9, td9, u0, u5, qc, qr⟩ | ⟨g, P, hg, ⟨x0, x1, x2, x3, qc⟩, y0, y1, y2, y3, y4, y5, y6, qr⟩
      · have q1' : y_X1_readLine (nI o) (nI n) 0 fa lt 400 bh av kd nm (nI j) (nI c) N1 F N3 = (nI (o + 1), 0, fa, l9, b9, a9, k9, m9) := qc
        have q2' : y_X12_readBookLine (nI n) 400 to fr kd' nm' sg 0 pl wd td (nI o) now M G = (1, t9, f9, q9, n9, s9, 0, pl, v9, td9) := qr
        have ec : y_X1_readLines_17 (nI n) F (nI j) (nI c) N1 N3 (mc + 1) (nI o) (nI o) 0 fa lt bh av kd nm = y_X1_readLines_17 (nI n) F (nI j) (nI c) N1 N3 mc (nI (o + 1)) (nI (o + 1)) 0 fa l9 b9 a9 k9 m9 := by rw [y_X1_readLines_17_s, if_neg hi, goesOn0, if_neg k1, lt1_v, if_neg oz, q1', lt8_t, lt1_v, nI_1]
        rw [ec, bkR_s, if_neg k2, q2', lt10_t, if_neg oz, nI_1]
        exact ih fa pl td9 (by omega) (by omega) (by omega) (by omega) u5
      · have q1' : y_X1_readLine (nI o) (nI n) 0 fa lt 400 bh av kd nm (nI j) (nI c) N1 F N3 = (x0, g, P, 0, x1, x2, 0, x3) := qc
        have q2' : y_X12_readBookLine (nI n) 400 to fr kd' nm' sg 0 pl wd td (nI o) now M G = (0, y0, y1, y2, y3, y4, g, P, y5, y6) := qr
        obtain ⟨mc, rfl⟩ : ∃ z, mc = z + 1 := ⟨mc - 1, by omega⟩
        have ec : (y_X1_readLines_17 (nI n) F (nI j) (nI c) N1 N3 (mc + 1 + 1) (nI o) (nI o) 0 fa lt bh av kd nm).2.1 = g := by
          rw [y_X1_readLines_17_s, if_neg hi, goesOn0, if_neg k1, lt1_v, if_neg oz, q1', lt8_t, lt1_v, nI_1, y_X1_readLines_17_s]
          by_cases z : (40 : Int32) < nI (o + 1)
          · rw [if_pos z]
          · rw [if_neg z, goesOn1 hg, lt1_v, if_pos rfl]
        rw [ec, bkR_s, if_neg k2, q2', lt10_t, if_pos rfl]
def bkF (L nm sg pl : Int32) (wd : Int64) (td : Int32) (G now : Nat → Int32) (M : Nat → Int64) : Int32 :=
  lt6 (y_X12_begin 400 L nm sg wd G) fun (t1 : Int32) (f1 : Int32) (q1 : Int32) (n1 : Int32) (s1 : Int32) (w1 : Int64) => bkR L 400 G now M 42 0 t1 f1 q1 n1 s1 0 pl w1 td
theorem bkF_b {L nm sg pl t1 f1 q1 n1 s1 td : Int32} {wd w1 : Int64} {G now : Nat → Int32} {M : Nat → Int64} (h : (t1, f1, q1, n1, s1, w1) = y_X12_begin 400 L nm sg wd G) : bkR L 400 G now M 42 0 t1 f1 q1 n1 s1 0 pl w1 td = bkF L nm sg pl wd td G now M := by
  unfold bkF
  rw [← h, lt6_t]
theorem book_eq {n : Nat} (hn : n ≤ 940) {F G : Nat → Int32} (ha : ∀ j, j < n → F j = G j) {j c : Nat} (hj : j ≤ 10) (hc : c ≤ 5) {N1 N3 M : Nat → Int64} (nr1 : NR 0 j N1 M) (nr3 : NR 14 c N3 M) {now : Nat → Int32} (w0 : now 0 = nI j) (w2_ : now 2 = nI c) (lt wd : Int64) (av kd nm nm' sg pl td : Int32) : (y_X1_readLines (nI n) lt av kd nm F (nI j) (nI c) N1 N3).2.1 = bkF (nI n) nm' sg pl wd td G now M := by
  have L := lex (p := 0) (lm := 400) (lt0 := lt) (av0 := av) (kd0 := kd) (nm0 := nm) (nr0 := nm') (sg0 := sg) (wd0 := wd) hn (by omega) (by omega) ha
  rcases e2 : y_X6_advance (nI n) 0 lt (nI 400) (nI 0) av kd nm F with ⟨l1, b1, a1, k1, m1⟩
  rcases e3 : y_X12_go (nI n) (nI 400) (nI 0) nm' sg wd G with ⟨t1, f1, q1, n1, s1, w1⟩
  rw [e2, e3] at L
  have x2 : y_X6_advance (nI n) 0 lt 400 0 av kd nm F = (l1, b1, a1, k1, m1) := e2
  have x3 : y_X12_go (nI n) 400 0 nm' sg wd G = (t1, f1, q1, n1, s1, w1) := e3
  have hr : bkF (nI n) nm' sg pl wd td G now M = bkR (nI n) 400 G now M 42 (nI 0) t1 f1 q1 n1 s1 0 pl w1 td := by
    unfold bkF
    rw [y_X12_begin_s, lt1_v, x3, lt6_t, lt6_t]; rfl
  rw [hr, y_X1_readLines_s, y_X6_begin_s, x2, lt5_t, lt5_t]
  exact book_loop hn ha hj hc nr1 nr3 w0 w2_ 40 (o := 0) (mc := 42) (mr := 42) 0 pl td (by omega) (by omega) (by omega) (by omega) L
/-! BOOK, as the walk of the reference sees it -/
def bkI (n : Int32) (G now : Nat → Int32) (M : Nat → Int64) (v li to fr kd nm sg ft pl : Int32) (wd : Int64) (td : Int32) : Prop := ∃ m : Nat, 42 ≤ li.toInt + (m : Int) ∧ bkR n 400 G now M m li to fr kd nm sg ft pl wd td = v
theorem bkI_b {L nm sg pl t1 f1 q1 n1 s1 td : Int32} {wd w1 : Int64} {G now : Nat → Int32} {M : Nat → Int64} (h : (t1, f1, q1, n1, s1, w1) = y_X12_begin 400 L nm sg wd G) : bkI L G now M (bkF L nm sg pl wd td G now M) 0 t1 f1 q1 n1 s1 0 pl w1 td := ⟨42, by decide, bkF_b h⟩
theorem bkI_s {n v li li' to fr kd nm sg ft pl td t1 f1 q1 n1 s1 g1 p1 d1 : Int32} {wd w1 : Int64} {G now : Nat → Int32} {M : Nat → Int64} (h : bkI n G now M v li to fr kd nm sg ft pl wd td) (hk : ¬ kd = 0) (hl : rg 0 39 li) (e : (1, t1, f1, q1, n1, s1, g1, p1, w1, d1) = y_X12_readBookLine n 400 to fr kd nm sg ft pl wd td li now M G) (el : li' = li + 1) : bkI n G now M v li' t1 f1 q1 n1 s1 g1 p1 w1 d1 := by
  obtain ⟨m, h1, h2⟩ := h
  have q := hl.1
  have q' := hl.2
  obtain ⟨m, rfl⟩ : ∃ z, m = z + 1 := ⟨m - 1, by omega⟩
  have e2 : (li + 1).toInt = li.toInt + 1 := tadd (a := 0) (b := 39) (d := 1) (f := 1) hl ⟨by decide, by decide⟩ (by decide) (by decide)
  refine ⟨m, by rw [el, e2]; omega, ?_⟩
  rw [bkR_s, if_neg hk, ← e, lt10_t, if_neg oz] at h2
  rw [el]; exact h2
theorem bkI_e {n v li to fr nm sg ft pl td : Int32} {wd : Int64} {G now : Nat → Int32} {M : Nat → Int64} {kd : Int32} (h : bkI n G now M v li to fr kd nm sg ft pl wd td) (hk : kd = 0) (hl : rg 0 40 li) : v = ft := by
  obtain ⟨m, h1, h2⟩ := h
  have q' := hl.2
  obtain ⟨m, rfl⟩ : ∃ z, m = z + 1 := ⟨m - 1, by omega⟩
  rw [bkR_s, if_pos hk] at h2
  exact h2.symm
theorem bkI_f {n v li to fr kd nm sg ft pl td t1 f1 q1 n1 s1 g1 p1 d1 : Int32} {wd w1 : Int64} {G now : Nat → Int32} {M : Nat → Int64} (h : bkI n G now M v li to fr kd nm sg ft pl wd td) (hk : ¬ kd = 0) (hl : rg 0 40 li) (e : (0, t1, f1, q1, n1, s1, g1, p1, w1, d1) = y_X12_readBookLine n 400 to fr kd nm sg ft pl wd td li now M G) : v = g1 := by
  obtain ⟨m, h1, h2⟩ := h
  have q' := hl.2
  obtain ⟨m, rfl⟩ : ∃ z, m = z + 1 := ⟨m - 1, by omega⟩
  rw [bkR_s, if_neg hk, ← e, lt10_t, if_pos rfl] at h2
  exact h2.symm
theorem book_tie {L : Int32} {F G : Nat → Int32} (hr : rg 0 940 L) (ha : agr L F G) {lj lf lc lo ld g1 g2 : Int32} (hj : rg 0 10 lj) (hc : rg 0 5 lc) {N1 N2 N3 nam : Nat → Int64} {Le Du now : Nat → Int32} (T : tieL 0 lj lf lc lo ld Le Du now) (TN : tieN 0 lj lf lc N1 N2 N3 nam) {lt wd : Int64} {av kd nm nm' sg pl td : Int32} (h1 : g1 = (y_X1_readLines L lt av kd nm F lj lc N1 N3).2.1) (h2 : g2 = bkF L nm' sg pl wd td G now nam) : g1 = g2 := by
  obtain ⟨n, hn, rfl⟩ := rg_nI hr
  obtain ⟨t0, -, t2, -, -, -, -⟩ := T
  obtain ⟨u1, -, u3⟩ := TN
  have p1 := hj.1
  have p2 := hj.2
  have p3 := hc.1
  have p4 := hc.2
  obtain ⟨j, ej⟩ : ∃ n : Nat, lj.toInt = (n : Int) := ⟨lj.toInt.toNat, by omega⟩
  obtain ⟨c, ec⟩ : ∃ n : Nat, lc.toInt = (n : Int) := ⟨lc.toInt.toNat, by omega⟩
  have e1 : lj = nI j := Int32.toInt_inj.mp (by rw [nI_toInt (by omega)]; exact ej)
  have e2 : lc = nI c := Int32.toInt_inj.mp (by rw [nI_toInt (by omega)]; exact ec)
  rw [h1, h2, e1, e2]
  refine book_eq hn (agr_nI hn ha) (show j ≤ 10 by omega) (show c ≤ 5 by omega) (fun k hk => u1 k (by omega) (by omega)) (fun k hk => ?_) (t0.symm.trans e1) (t2.symm.trans e2) lt wd av kd nm nm' sg pl td
  have z := u3 k (by omega) (by omega)
  rw [Nat.zero_add] at z
  exact z
