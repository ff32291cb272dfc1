theorem one_8 {n lm : Nat} (hn : n ≤ 940) (hl : lm ≤ 940) {F G : Nat → Int32} (ha : ∀ j, j < n → F j = G j) {j f : Nat} (hj : j ≤ 10) (hf : f ≤ 4) {N1 N2 M : Nat → Int64} (nr1 : NR 0 j N1 M) (nr2 : NR 10 f N2 M) {now : Nat → Int32} (w0 : now 0 = nI j) (w9 : now 1 = nI f) {p o : Nat} {lt : Int64} {bh av kd nm to fr kd' nm' sg : Int32} {wd : Int64} (fa ft pl td : Int32) (ho : o ≤ 20) (h : TR n p lt bh av kd nm to fr kd' nm' sg wd) :
    SO n fa ft pl (o + 1) (y_X8_readOne_8 (nI o) (nI n) 0 fa lt (nI lm) bh av kd nm F (nI j) (nI f) N2 N1) (y_X12_readSaid_7 (nI n) (nI lm) to fr kd' nm' sg ft pl wd td (nI o) G now M) := by
  have e0 := h.1
  rcases op_sg hn hl ha fa sgn40 h with ⟨p1, l1, b1, a1, k1, m1, t1, f1, q1, n1, s1, w1, g3, c1, c2, c3, ga, gg, -⟩ | ⟨c1, c2, -⟩
  · have nw : ∀ q : Nat, ¬ (kd' = 2 ∧ wd = wv q) := fun q z => absurd (c2.symm.trans z.1) (by decide)
    have hp : y_X8_plainWord lt kd = none := plain_none h.kr (fun k _ _ => nw k)
    have z17 : y_X6_sees lt kd 17 = 0 := by rw [sees_w h.kr (by decide), if_neg (nw 17)]
    have z40 : y_X6_seesSign 40 kd = 1 := by rw [y_X6_seesSign_s, if_pos c1]
    have o40 : y_X12_isSign 40 kd' sg = 1 := by rw [isSign_w, if_pos ⟨c2, c3⟩]
    have nk1 : ¬ kd' = 1 := by rw [c2]; decide
    obtain ⟨m, em⟩ := sl_7 (n := n) (lm := lm) (o := o) (to := to) (fr := fr) (kd' := kd') (nm' := nm') (sg := sg) (ft := ft) (pl := pl) (td := td) (wd := wd) (G := G) (now := now) (M := M) 1 (w := 26) (by decide) (by decide) (fun q _ _ => nw q)
    by_cases ho20 : o = 20
    · subst ho20
      have qc : y_X8_readOne_8 (nI 20) (nI n) 0 fa lt (nI lm) bh av kd nm F (nI j) (nI f) N2 N1 = (nI 20, 4, fr, 0, bh, av, 0, nm) := by rw [y_X8_readOne_8_s, lo_n hp, z17, lt1_v, if_pos rfl, z40, lt1_v, if_neg oz, if_pos (show (20 : Int32) ≤ nI 20 from by decide), fail0, lt4_t, e0]
      have qr : y_X12_readSaid_7 (nI n) (nI lm) to fr kd' nm' sg ft pl wd td (nI 20) G now M = (0, to, fr, kd', nm', sg, 4, fr, wd, td, nI 20) := by rw [y_X12_readSaid_7_s, o40, lt1_v, if_neg oz, em, y_X12_readSaid_7_10_s, if_pos (show (25 : Int32) < nI 26 from by decide), if_neg oz, if_pos (show nI 20 = (20 : Int32) from rfl), bad_v, if_neg nk1, lt2_t]
      exact Or.inr ⟨4, fr, by decide, ⟨_, _, _, _, qc⟩, _, _, _, _, _, _, _, _, qr⟩
    · skip
      obtain ⟨g, hg, -, x2, -, x4⟩ := nine (o := o + 1) fa g3
      have qc : y_X8_readOne_8 (nI o) (nI n) 0 fa lt (nI lm) bh av kd nm F (nI j) (nI f) N2 N1 = (nI (o + 1), g, f1, 0, b1, a1, 0, m1) := by rw [y_X8_readOne_8_s, lo_n hp, z17, lt1_v, if_pos rfl, z40, lt1_v, if_neg oz, if_neg (show ¬ (20 : Int32) ≤ nI o from nI_ge (b := 20) (by omega) (by omega)), lt1_v, nI_1, lt1_v, if_neg oz, ga, lt5_t, x2, lt4_t]
      have qr : y_X12_readSaid_7 (nI n) (nI lm) to fr kd' nm' sg ft pl wd td (nI o) G now M = (0, t1, f1, q1, n1, s1, g, f1, w1, td, nI (o + 1)) := by rw [y_X12_readSaid_7_s, o40, lt1_v, if_neg oz, em, y_X12_readSaid_7_10_s, if_pos (show (25 : Int32) < nI 26 from by decide), if_neg oz, if_neg (show ¬ nI o = (20 : Int32) from nI_ne (b := 20) (by omega) (by omega) ho20), lt1_v, nI_1, gg, lt6_t, x4, lt2_t]
      exact Or.inr ⟨g, f1, hg, ⟨_, _, _, _, qc⟩, _, _, _, _, _, _, _, _, qr⟩
  · have z40 : y_X6_seesSign 40 kd = 0 := by rw [y_X6_seesSign_s, if_neg c1]
    have o40 : y_X12_isSign 40 kd' sg = 0 := by rw [isSign_w, if_neg c2]
    by_cases cw : ∃ w, 17 ≤ w ∧ w < 26 ∧ kd' = 2 ∧ wd = wv w
    rotate_left
    · have hp : y_X8_plainWord lt kd = none := plain_none h.kr (fun k a b z => cw ⟨k, by omega, b, z⟩)
      have z17 : y_X6_sees lt kd 17 = 0 := by rw [sees_w h.kr (by decide), if_neg (fun z => cw ⟨17, by decide, by decide, z⟩)]
      obtain ⟨m, em⟩ := sl_7 (n := n) (lm := lm) (o := o) (to := to) (fr := fr) (kd' := kd') (nm' := nm') (sg := sg) (ft := ft) (pl := pl) (td := td) (wd := wd) (G := G) (now := now) (M := M) 0 (w := 26) (by decide) (by decide) (fun q a b z => cw ⟨q, a, b, z⟩)
      have qc : y_X8_readOne_8 (nI o) (nI n) 0 fa lt (nI lm) bh av kd nm F (nI j) (nI f) N2 N1 = (nI o, 1, fr, 0, bh, av, 0, nm) := by rw [y_X8_readOne_8_s, lo_n hp, z17, lt1_v, if_pos rfl, z40, lt1_v, if_pos rfl, fail0, lt4_t, e0]
      have qr : y_X12_readSaid_7 (nI n) (nI lm) to fr kd' nm' sg ft pl wd td (nI o) G now M = (0, to, fr, kd', nm', sg, 1, fr, wd, td, nI o) := by rw [y_X12_readSaid_7_s, o40, lt1_v, if_pos rfl, em, y_X12_readSaid_7_10_s, if_pos (show (25 : Int32) < nI 26 from by decide), if_pos rfl, bad_v, ite_self, lt2_t]
      exact Or.inr ⟨1, fr, by decide, ⟨_, _, _, _, qc⟩, _, _, _, _, _, _, _, _, qr⟩
    obtain ⟨w, hw1, hw2, c⟩ := cw
    have hk : kd = 2 := by
      rcases h.kr with ⟨a, -, -⟩ | ⟨-, b⟩
      · exact a
      · exact absurd c.1 b
    have nk1 : ¬ kd' = 1 := by rw [c.1]; decide
    obtain ⟨p1, l1, b1, a1, k1, m1, t1, f1, q1, n1, s1, w1, -, -, g3, ga, gg, -, -⟩ := op_go hn hl ha h hk
    obtain ⟨m, em⟩ := sl_7 (n := n) (lm := lm) (o := o) (to := to) (fr := fr) (kd' := kd') (nm' := nm') (sg := sg) (ft := ft) (pl := pl) (td := td) (wd := wd) (G := G) (now := now) (M := M) 0 (w := w) hw1 (by omega) (fun q a b z => absurd (wv_inj q (by omega) w hw2 (z.2.symm.trans c.2)) (by omega))
    by_cases h17 : w = 17
    · subst h17
      have hp : y_X8_plainWord lt kd = none := plain_none h.kr (fun k a b z => absurd (wv_inj k b 17 (by decide) (z.2.symm.trans c.2)) (by omega))
      have z17 : y_X6_sees lt kd 17 = 1 := by rw [sees_w h.kr (by decide), if_pos c]
      by_cases ho20 : o = 20
      · subst ho20
        have qc : y_X8_readOne_8 (nI 20) (nI n) 0 fa lt (nI lm) bh av kd nm F (nI j) (nI f) N2 N1 = (nI 20, 4, fr, 0, bh, av, 0, nm) := by rw [y_X8_readOne_8_s, lo_n hp, z17, lt1_v, if_neg oz, if_pos (show (20 : Int32) ≤ nI 20 from by decide), fail0, lt4_t, e0]
        have qr : y_X12_readSaid_7 (nI n) (nI lm) to fr kd' nm' sg ft pl wd td (nI 20) G now M = (0, to, fr, kd', nm', sg, 4, fr, wd, td, nI 20) := by rw [y_X12_readSaid_7_s, o40, lt1_v, if_pos rfl, em, y_X12_readSaid_7_10_s, if_neg (nlt.mpr (show nI 17 ≤ (25 : Int32) from nI_le (b := 25) (by omega) (by omega))), isWordG hw2, if_pos c, lt1_v, if_neg oz, if_pos rfl, if_pos (show nI 20 = (20 : Int32) from rfl), bad_v, if_neg nk1, lt2_t]
        exact Or.inr ⟨4, fr, by decide, ⟨_, _, _, _, qc⟩, _, _, _, _, _, _, _, _, qr⟩
      · skip
        obtain ⟨g, hg, x1, -, x3, -⟩ := nine (o := o + 1) fa g3
        have qc : y_X8_readOne_8 (nI o) (nI n) 0 fa lt (nI lm) bh av kd nm F (nI j) (nI f) N2 N1 = (nI (o + 1), g, f1, 0, b1, a1, 0, m1) := by rw [y_X8_readOne_8_s, lo_n hp, z17, lt1_v, if_neg oz, if_neg (show ¬ (20 : Int32) ≤ nI o from nI_ge (b := 20) (by omega) (by omega)), lt1_v, nI_1, z40, lt1_v, if_pos rfl, ga, lt5_t, x1, lt4_t]
        have qr : y_X12_readSaid_7 (nI n) (nI lm) to fr kd' nm' sg ft pl wd td (nI o) G now M = (0, t1, f1, q1, n1, s1, g, f1, w1, td, nI (o + 1)) := by rw [y_X12_readSaid_7_s, o40, lt1_v, if_pos rfl, em, y_X12_readSaid_7_10_s, if_neg (nlt.mpr (show nI 17 ≤ (25 : Int32) from nI_le (b := 25) (by omega) (by omega))), isWordG hw2, if_pos c, lt1_v, if_neg oz, if_pos rfl, if_neg (show ¬ nI o = (20 : Int32) from nI_ne (b := 20) (by omega) (by omega) ho20), lt1_v, nI_1, gg, lt6_t, if_pos (show nI 17 = (17 : Int32) from rfl), x3, lt2_t]
        exact Or.inr ⟨g, f1, hg, ⟨_, _, _, _, qc⟩, _, _, _, _, _, _, _, _, qr⟩
    · have hp : y_X8_plainWord lt kd = some w := plain_some h.kr (by omega) hw2 c
      by_cases ho20 : o = 20
      · subst ho20
        have qc : y_X8_readOne_8 (nI 20) (nI n) 0 fa lt (nI lm) bh av kd nm F (nI j) (nI f) N2 N1 = (nI 20, 4, fr, 0, bh, av, 0, nm) := by rw [y_X8_readOne_8_s, lo_s hp, if_pos (show (20 : Int32) ≤ nI 20 from by decide), fail0, lt4_t, e0]
        have qr : y_X12_readSaid_7 (nI n) (nI lm) to fr kd' nm' sg ft pl wd td (nI 20) G now M = (0, to, fr, kd', nm', sg, 4, fr, wd, td, nI 20) := by rw [y_X12_readSaid_7_s, o40, lt1_v, if_pos rfl, em, y_X12_readSaid_7_10_s, if_neg (nlt.mpr (show nI w ≤ (25 : Int32) from nI_le (b := 25) (by omega) (by omega))), isWordG hw2, if_pos c, lt1_v, if_neg oz, if_pos rfl, if_pos (show nI 20 = (20 : Int32) from rfl), bad_v, if_neg nk1, lt2_t]
        exact Or.inr ⟨4, fr, by decide, ⟨_, _, _, _, qc⟩, _, _, _, _, _, _, _, _, qr⟩
      · by_cases h21 : 21 ≤ w
        · have i21 : (21 : Int32) ≤ nI w := nI_le (a := 21) (by omega) (by omega)
          by_cases h22 : 22 ≤ w
          · have i22 : (22 : Int32) ≤ nI w := nI_le (a := 22) (by omega) (by omega)
            rcases comp_read hn hl ha (j := j) (f := f) (N1 := N1) (N2 := N2) fa ft pl td h22 hw2 g3 with ⟨p2, l2, b2, a2, k2, m2, t2, f2, q2, n2, s2, w2, td2, d3, pc, pr⟩ | ⟨g, P, hg, ⟨x1, x2, x3, pc⟩, y0, y1, y2, y3, y4, y5, y6, pr⟩
            · have qc : y_X8_readOne_8 (nI o) (nI n) 0 fa lt (nI lm) bh av kd nm F (nI j) (nI f) N2 N1 = (nI (o + 1), 0, fa, l2, b2, a2, k2, m2) := by rw [y_X8_readOne_8_s, lo_s hp, if_neg (show ¬ (20 : Int32) ≤ nI o from nI_ge (b := 20) (by omega) (by omega)), lt1_v, nI_1, z40, lt1_v, if_pos rfl, ga, lt5_t, pc, lt7_t]
              have qr : y_X12_readSaid_7 (nI n) (nI lm) to fr kd' nm' sg ft pl wd td (nI o) G now M = (1, t2, f2, q2, n2, s2, ft, pl, w2, td2, nI (o + 1)) := by rw [y_X12_readSaid_7_s, o40, lt1_v, if_pos rfl, em, y_X12_readSaid_7_10_s, if_neg (nlt.mpr (show nI w ≤ (25 : Int32) from nI_le (b := 25) (by omega) (by omega))), isWordG hw2, if_pos c, lt1_v, if_neg oz, if_pos rfl, if_neg (show ¬ nI o = (20 : Int32) from nI_ne (b := 20) (by omega) (by omega) ho20), lt1_v, nI_1, gg, lt6_t, if_neg (show ¬ nI w = (17 : Int32) from nI_ne (b := 17) (by omega) (by omega) h17), if_pos i21, if_pos i22, pr, lt10_t, if_neg oz]
              exact Or.inl ⟨p2, o + 1, l2, b2, a2, k2, m2, t2, f2, q2, n2, s2, w2, td2, Nat.le_refl _, by omega, d3, qc, qr⟩
            · have qc : y_X8_readOne_8 (nI o) (nI n) 0 fa lt (nI lm) bh av kd nm F (nI j) (nI f) N2 N1 = (nI (o + 1), g, P, 0, x1, x2, 0, x3) := by rw [y_X8_readOne_8_s, lo_s hp, if_neg (show ¬ (20 : Int32) ≤ nI o from nI_ge (b := 20) (by omega) (by omega)), lt1_v, nI_1, z40, lt1_v, if_pos rfl, ga, lt5_t, pc, lt7_t]
              have qr : y_X12_readSaid_7 (nI n) (nI lm) to fr kd' nm' sg ft pl wd td (nI o) G now M = (0, y0, y1, y2, y3, y4, g, P, y5, y6, nI (o + 1)) := by rw [y_X12_readSaid_7_s, o40, lt1_v, if_pos rfl, em, y_X12_readSaid_7_10_s, if_neg (nlt.mpr (show nI w ≤ (25 : Int32) from nI_le (b := 25) (by omega) (by omega))), isWordG hw2, if_pos c, lt1_v, if_neg oz, if_pos rfl, if_neg (show ¬ nI o = (20 : Int32) from nI_ne (b := 20) (by omega) (by omega) ho20), lt1_v, nI_1, gg, lt6_t, if_neg (show ¬ nI w = (17 : Int32) from nI_ne (b := 17) (by omega) (by omega) h17), if_pos i21, if_pos i22, pr, lt10_t, if_pos rfl]
              exact Or.inr ⟨g, P, hg, ⟨_, _, _, _, qc⟩, _, _, _, _, _, _, _, _, qr⟩
          · have i22 : ¬ (22 : Int32) ≤ nI w := nI_ge (b := 22) (by omega) (by omega)
            have e21 : w = 21 := by omega
            subst e21
            rcases ring_read hn hl ha hj hf nr1 nr2 w0 w9 fa ft pl td g3 with ⟨p2, l2, b2, a2, k2, m2, t2, f2, q2, n2, s2, w2, td2, d3, pc, pr⟩ | ⟨g, P, hg, ⟨x1, x2, x3, pc⟩, y0, y1, y2, y3, y4, y5, y6, pr⟩
            · have qc : y_X8_readOne_8 (nI o) (nI n) 0 fa lt (nI lm) bh av kd nm F (nI j) (nI f) N2 N1 = (nI (o + 1), 0, fa, l2, b2, a2, k2, m2) := by rw [y_X8_readOne_8_s, lo_s hp, if_neg (show ¬ (20 : Int32) ≤ nI o from nI_ge (b := 20) (by omega) (by omega)), lt1_v, nI_1, z40, lt1_v, if_pos rfl, ga, lt5_t, pc, lt7_t]
              have qr : y_X12_readSaid_7 (nI n) (nI lm) to fr kd' nm' sg ft pl wd td (nI o) G now M = (1, t2, f2, q2, n2, s2, ft, pl, w2, td2, nI (o + 1)) := by rw [y_X12_readSaid_7_s, o40, lt1_v, if_pos rfl, em, y_X12_readSaid_7_10_s, if_neg (nlt.mpr (show nI 21 ≤ (25 : Int32) from nI_le (b := 25) (by omega) (by omega))), isWordG hw2, if_pos c, lt1_v, if_neg oz, if_pos rfl, if_neg (show ¬ nI o = (20 : Int32) from nI_ne (b := 20) (by omega) (by omega) ho20), lt1_v, nI_1, gg, lt6_t, if_neg (show ¬ nI 21 = (17 : Int32) from nI_ne (b := 17) (by omega) (by omega) h17), if_pos i21, if_neg i22, pr, lt10_t, if_neg oz]
              exact Or.inl ⟨p2, o + 1, l2, b2, a2, k2, m2, t2, f2, q2, n2, s2, w2, td2, Nat.le_refl _, by omega, d3, qc, qr⟩
            · have qc : y_X8_readOne_8 (nI o) (nI n) 0 fa lt (nI lm) bh av kd nm F (nI j) (nI f) N2 N1 = (nI (o + 1), g, P, 0, x1, x2, 0, x3) := by rw [y_X8_readOne_8_s, lo_s hp, if_neg (show ¬ (20 : Int32) ≤ nI o from nI_ge (b := 20) (by omega) (by omega)), lt1_v, nI_1, z40, lt1_v, if_pos rfl, ga, lt5_t, pc, lt7_t]
              have qr : y_X12_readSaid_7 (nI n) (nI lm) to fr kd' nm' sg ft pl wd td (nI o) G now M = (0, y0, y1, y2, y3, y4, g, P, y5, y6, nI (o + 1)) := by rw [y_X12_readSaid_7_s, o40, lt1_v, if_pos rfl, em, y_X12_readSaid_7_10_s, if_neg (nlt.mpr (show nI 21 ≤ (25 : Int32) from nI_le (b := 25) (by omega) (by omega))), isWordG hw2, if_pos c, lt1_v, if_neg oz, if_pos rfl, if_neg (show ¬ nI o = (20 : Int32) from nI_ne (b := 20) (by omega) (by omega) ho20), lt1_v, nI_1, gg, lt6_t, if_neg (show ¬ nI 21 = (17 : Int32) from nI_ne (b := 17) (by omega) (by omega) h17), if_pos i21, if_neg i22, pr, lt10_t, if_pos rfl]
              exact Or.inr ⟨g, P, hg, ⟨_, _, _, _, qc⟩, _, _, _, _, _, _, _, _, qr⟩
        · have i21 : ¬ (21 : Int32) ≤ nI w := nI_ge (b := 21) (by omega) (by omega)
          have hm : y_X8_isMeasure w = 0 := by rw [isMeasure_v w hw2, if_neg (show ¬ 22 ≤ w by omega)]
          have qc : y_X8_readOne_8 (nI o) (nI n) 0 fa lt (nI lm) bh av kd nm F (nI j) (nI f) N2 N1 = (nI (o + 1), 0, fa, l1, b1, a1, k1, m1) := by rw [y_X8_readOne_8_s, lo_s hp, if_neg (show ¬ (20 : Int32) ≤ nI o from nI_ge (b := 20) (by omega) (by omega)), lt1_v, nI_1, z40, lt1_v, if_pos rfl, ga, lt5_t, y_X8_readPlain_s, if_neg (show ¬ w = 21 by omega), hm, lt1_v, if_neg zo, if_pos rfl, lt7_t]
          have qr : y_X12_readSaid_7 (nI n) (nI lm) to fr kd' nm' sg ft pl wd td (nI o) G now M = (1, t1, f1, q1, n1, s1, ft, pl, w1, td, nI (o + 1)) := by rw [y_X12_readSaid_7_s, o40, lt1_v, if_pos rfl, em, y_X12_readSaid_7_10_s, if_neg (nlt.mpr (show nI w ≤ (25 : Int32) from nI_le (b := 25) (by omega) (by omega))), isWordG hw2, if_pos c, lt1_v, if_neg oz, if_pos rfl, if_neg (show ¬ nI o = (20 : Int32) from nI_ne (b := 20) (by omega) (by omega) ho20), lt1_v, nI_1, gg, lt6_t, if_neg (show ¬ nI w = (17 : Int32) from nI_ne (b := 17) (by omega) (by omega) h17), if_neg i21, lt1_v]
          exact Or.inl ⟨p1, o + 1, l1, b1, a1, k1, m1, t1, f1, q1, n1, s1, w1, td, Nat.le_refl _, by omega, g3, qc, qr⟩
theorem allB_8 {n lm j f x0 g P x1 x2 x3 i : Int32} {F : Nat → Int32} {N2 N1 : Nat → Int64} (mc : Nat) : y_X8_readAll_8_8 n lm F j f N2 N1 (mc + 1) i x0 g P 0 x1 x2 0 x3 = (x0, g, P, 0, x1, x2, 0, x3) := by
  rw [y_X8_readAll_8_8_s]
  by_cases c : (20 : Int32) ≤ i
  · rw [if_pos c]
  · rw [if_neg c, if1, lt6_t, if_pos rfl]
theorem allL_8 {n lm : Nat} (hn : n ≤ 940) (hl : lm ≤ 940) {F G : Nat → Int32} (ha : ∀ j, j < n → F j = G j) {j f : Nat} (hj : j ≤ 10) (hf : f ≤ 4) {N1 N2 M : Nat → Int64} (nr1 : NR 0 j N1 M) (nr2 : NR 10 f N2 M) {now : Nat → Int32} (w0 : now 0 = nI j) (w9 : now 1 = nI f) : ∀ (u : Nat) {p o i mc mr : Nat} {lt : Int64} {bh av kd nm to fr kd' nm' sg : Int32} {wd : Int64} (fa ft pl td : Int32), 20 ≤ o + u → o ≤ 20 → i + 1 ≤ o → u + 1 < mc → u < mr → TR n p lt bh av kd nm to fr kd' nm' sg wd → SO n fa ft pl o (y_X8_readAll_8_8 (nI n) (nI lm) F (nI j) (nI f) N2 N1 mc (nI i) (nI o) 0 fa lt bh av kd nm) (y_X12_readAnd_7_14 (nI n) (nI lm) G now M mr to fr kd' nm' sg ft pl wd td (nI o)) := by
  intro u
  induction u with
  | zero =>
    intro p o i mc mr lt bh av kd nm to fr kd' nm' sg wd fa ft pl td h1 h2 h3 h4 h5 h
    obtain ⟨mc, rfl⟩ : ∃ z, mc = z + 1 := ⟨mc - 1, by omega⟩
    obtain ⟨mr, rfl⟩ : ∃ z, mr = z + 1 := ⟨mr - 1, by omega⟩
    rcases op_ifk hn hl ha (k := 16) (by decide) h with ⟨p1, l1, b1, a1, k1, m1, t1, f1, q1, n1, s1, w1, g3, c, ti, gg⟩ | ⟨c, ti⟩
    · rcases one_8 hn hl ha hj hf nr1 nr2 w0 w9 fa ft pl td h2 g3 with ⟨p9, o9, l9, b9, a9, k9, m9, t9, f9, q9, n9, s9, v9, td9, u3, u4, u5, qc1, qr1⟩ | ⟨g, P, hg, ⟨x0, x1, x2, x3, qc1⟩, y0, y1, y2, y3, y4, y5, y6, y7, qr1⟩
      · exact absurd u3 (by omega)
      · obtain ⟨mc, rfl⟩ : ∃ z, mc = z + 1 := ⟨mc - 1, by omega⟩
        have qc : y_X8_readAll_8_8 (nI n) (nI lm) F (nI j) (nI f) N2 N1 (mc + 1 + 1) (nI i) (nI o) 0 fa lt bh av kd nm = (x0, g, P, 0, x1, x2, 0, x3) := by rw [y_X8_readAll_8_8_s, if_neg (show ¬ (20 : Int32) ≤ nI i from nI_ge (b := 20) (by omega) (by omega)), ti, lt6_t, if_neg oz, qc1, lt8_t, if_neg hg, lt1_v, nI_1, allB_8]
        have qr : y_X12_readAnd_7_14 (nI n) (nI lm) G now M (mr + 1) to fr kd' nm' sg ft pl wd td (nI o) = (0, y0, y1, y2, y3, y4, g, P, y5, y6, y7) := by rw [y_X12_readAnd_7_14_s, isWord_v16, if_pos c, lt1_v, if_neg oz, gg, lt6_t, qr1, lt11_t, if_pos rfl]
        exact Or.inr ⟨g, P, hg, ⟨_, _, _, _, qc⟩, _, _, _, _, _, _, _, _, qr⟩
    · have qc : y_X8_readAll_8_8 (nI n) (nI lm) F (nI j) (nI f) N2 N1 (mc + 1) (nI i) (nI o) 0 fa lt bh av kd nm = (nI o, 0, fa, lt, bh, av, kd, nm) := by rw [y_X8_readAll_8_8_s, if_neg (show ¬ (20 : Int32) ≤ nI i from nI_ge (b := 20) (by omega) (by omega)), ti, lt6_t, if_pos rfl]
      have qr : y_X12_readAnd_7_14 (nI n) (nI lm) G now M (mr + 1) to fr kd' nm' sg ft pl wd td (nI o) = (1, to, fr, kd', nm', sg, ft, pl, wd, td, nI o) := by rw [y_X12_readAnd_7_14_s, isWord_v16, if_neg c, lt1_v, if_pos rfl]
      exact Or.inl ⟨p, o, lt, bh, av, kd, nm, to, fr, kd', nm', sg, wd, td, Nat.le_refl _, h2, h, qc, qr⟩
  | succ u ih =>
    intro p o i mc mr lt bh av kd nm to fr kd' nm' sg wd fa ft pl td h1 h2 h3 h4 h5 h
    obtain ⟨mc, rfl⟩ : ∃ z, mc = z + 1 := ⟨mc - 1, by omega⟩
    obtain ⟨mr, rfl⟩ : ∃ z, mr = z + 1 := ⟨mr - 1, by omega⟩
    rcases op_ifk hn hl ha (k := 16) (by decide) h with ⟨p1, l1, b1, a1, k1, m1, t1, f1, q1, n1, s1, w1, g3, c, ti, gg⟩ | ⟨c, ti⟩
    · rcases one_8 hn hl ha hj hf nr1 nr2 w0 w9 fa ft pl td h2 g3 with ⟨p9, o9, l9, b9, a9, k9, m9, t9, f9, q9, n9, s9, v9, td9, u3, u4, u5, qc1, qr1⟩ | ⟨g, P, hg, ⟨x0, x1, x2, x3, qc1⟩, y0, y1, y2, y3, y4, y5, y6, y7, qr1⟩
      · have ec : y_X8_readAll_8_8 (nI n) (nI lm) F (nI j) (nI f) N2 N1 (mc + 1) (nI i) (nI o) 0 fa lt bh av kd nm = y_X8_readAll_8_8 (nI n) (nI lm) F (nI j) (nI f) N2 N1 mc (nI (i + 1)) (nI o9) 0 fa l9 b9 a9 k9 m9 := by rw [y_X8_readAll_8_8_s, if_neg (show ¬ (20 : Int32) ≤ nI i from nI_ge (b := 20) (by omega) (by omega)), ti, lt6_t, if_neg oz, qc1, lt8_t, if_pos rfl, lt1_v, nI_1]
        have er : y_X12_readAnd_7_14 (nI n) (nI lm) G now M (mr + 1) to fr kd' nm' sg ft pl wd td (nI o) = y_X12_readAnd_7_14 (nI n) (nI lm) G now M mr t9 f9 q9 n9 s9 ft pl v9 td9 (nI o9) := by rw [y_X12_readAnd_7_14_s, isWord_v16, if_pos c, lt1_v, if_neg oz, gg, lt6_t, qr1, lt11_t, if_neg oz]
        rw [ec, er]
        exact (ih fa ft pl td9 (by omega) u4 (by omega) (by omega) (by omega) u5).mono (by omega)
      · obtain ⟨mc, rfl⟩ : ∃ z, mc = z + 1 := ⟨mc - 1, by omega⟩
        have qc : y_X8_readAll_8_8 (nI n) (nI lm) F (nI j) (nI f) N2 N1 (mc + 1 + 1) (nI i) (nI o) 0 fa lt bh av kd nm = (x0, g, P, 0, x1, x2, 0, x3) := by rw [y_X8_readAll_8_8_s, if_neg (show ¬ (20 : Int32) ≤ nI i from nI_ge (b := 20) (by omega) (by omega)), ti, lt6_t, if_neg oz, qc1, lt8_t, if_neg hg, lt1_v, nI_1, allB_8]
        have qr : y_X12_readAnd_7_14 (nI n) (nI lm) G now M (mr + 1) to fr kd' nm' sg ft pl wd td (nI o) = (0, y0, y1, y2, y3, y4, g, P, y5, y6, y7) := by rw [y_X12_readAnd_7_14_s, isWord_v16, if_pos c, lt1_v, if_neg oz, gg, lt6_t, qr1, lt11_t, if_pos rfl]
        exact Or.inr ⟨g, P, hg, ⟨_, _, _, _, qc⟩, _, _, _, _, _, _, _, _, qr⟩
    · have qc : y_X8_readAll_8_8 (nI n) (nI lm) F (nI j) (nI f) N2 N1 (mc + 1) (nI i) (nI o) 0 fa lt bh av kd nm = (nI o, 0, fa, lt, bh, av, kd, nm) := by rw [y_X8_readAll_8_8_s, if_neg (show ¬ (20 : Int32) ≤ nI i from nI_ge (b := 20) (by omega) (by omega)), ti, lt6_t, if_pos rfl]
      have qr : y_X12_readAnd_7_14 (nI n) (nI lm) G now M (mr + 1) to fr kd' nm' sg ft pl wd td (nI o) = (1, to, fr, kd', nm', sg, ft, pl, wd, td, nI o) := by rw [y_X12_readAnd_7_14_s, isWord_v16, if_neg c, lt1_v, if_pos rfl]
      exact Or.inl ⟨p, o, lt, bh, av, kd, nm, to, fr, kd', nm', sg, wd, td, Nat.le_refl _, h2, h, qc, qr⟩
theorem all_8 {n lm : Nat} (hn : n ≤ 940) (hl : lm ≤ 940) {F G : Nat → Int32} (ha : ∀ j, j < n → F j = G j) {j f : Nat} (hj : j ≤ 10) (hf : f ≤ 4) {N1 N2 M : Nat → Int64} (nr1 : NR 0 j N1 M) (nr2 : NR 10 f N2 M) {now : Nat → Int32} (w0 : now 0 = nI j) (w9 : now 1 = nI f) {p o : Nat} {lt : Int64} {bh av kd nm to fr kd' nm' sg : Int32} {wd : Int64} (fa ft pl td : Int32) (ho : o ≤ 20) (h : TR n p lt bh av kd nm to fr kd' nm' sg wd) :
    SO n fa ft pl (o + 1) (y_X8_readAll_8 (nI o) (nI n) 0 fa lt (nI lm) bh av kd nm F (nI j) (nI f) N2 N1) (y_X12_readAnd_7 (nI n) (nI lm) to fr kd' nm' sg ft pl wd td (nI o) G now M) := by
  rcases one_8 hn hl ha hj hf nr1 nr2 w0 w9 fa ft pl td ho h with ⟨p9, o9, l9, b9, a9, k9, m9, t9, f9, q9, n9, s9, v9, td9, u3, u4, u5, qc1, qr1⟩ | ⟨g, P, hg, ⟨x0, x1, x2, x3, qc1⟩, y0, y1, y2, y3, y4, y5, y6, y7, qr1⟩
  · rw [y_X8_readAll_8_s, qc1, lt8_t, y_X12_readAnd_7_s, qr1, lt11_t, if_neg oz]
    exact (allL_8 hn hl ha hj hf nr1 nr2 w0 w9 19 (i := 0) fa ft pl td9 (by omega) u4 (by omega) (by omega) (by omega) u5).mono u3
  · have qc : y_X8_readAll_8 (nI o) (nI n) 0 fa lt (nI lm) bh av kd nm F (nI j) (nI f) N2 N1 = (x0, g, P, 0, x1, x2, 0, x3) := by rw [y_X8_readAll_8_s, qc1, lt8_t, allB_8]
    have qr : y_X12_readAnd_7 (nI n) (nI lm) to fr kd' nm' sg ft pl wd td (nI o) G now M = (0, y0, y1, y2, y3, y4, g, P, y5, y6, y7) := by rw [y_X12_readAnd_7_s, qr1, lt11_t, if_pos rfl]
    exact Or.inr ⟨g, P, hg, ⟨_, _, _, _, qc⟩, _, _, _, _, _, _, _, _, qr⟩
theorem condB_8 {n lm j f x0 g P x1 x2 x3 i : Int32} {F : Nat → Int32} {N2 N1 : Nat → Int64} (mc : Nat) : y_X8_readCond_8_8 n lm F j f N2 N1 (mc + 1) i x0 g P 0 x1 x2 0 x3 = (x0, g, P, 0, x1, x2, 0, x3) := by
  rw [y_X8_readCond_8_8_s]
  by_cases c : (20 : Int32) ≤ i
  · rw [if_pos c]
  · rw [if_neg c, if1, lt6_t, if_pos rfl]
theorem condL_8 {n lm : Nat} (hn : n ≤ 940) (hl : lm ≤ 940) {F G : Nat → Int32} (ha : ∀ j, j < n → F j = G j) {j f : Nat} (hj : j ≤ 10) (hf : f ≤ 4) {N1 N2 M : Nat → Int64} (nr1 : NR 0 j N1 M) (nr2 : NR 10 f N2 M) {now : Nat → Int32} (w0 : now 0 = nI j) (w9 : now 1 = nI f) : ∀ (u : Nat) {p o i mc mr : Nat} {lt : Int64} {bh av kd nm to fr kd' nm' sg : Int32} {wd : Int64} (fa ft pl td : Int32), 20 ≤ o + u → o ≤ 20 → i + 1 ≤ o → u + 1 < mc → u < mr → TR n p lt bh av kd nm to fr kd' nm' sg wd → SO n fa ft pl o (y_X8_readCond_8_8 (nI n) (nI lm) F (nI j) (nI f) N2 N1 mc (nI i) (nI o) 0 fa lt bh av kd nm) (y_X12_readOr_7_14 (nI n) (nI lm) G now M mr to fr kd' nm' sg ft pl wd td (nI o)) := by
  intro u
  induction u with
  | zero =>
    intro p o i mc mr lt bh av kd nm to fr kd' nm' sg wd fa ft pl td h1 h2 h3 h4 h5 h
    obtain ⟨mc, rfl⟩ : ∃ z, mc = z + 1 := ⟨mc - 1, by omega⟩
    obtain ⟨mr, rfl⟩ : ∃ z, mr = z + 1 := ⟨mr - 1, by omega⟩
    rcases op_ifk hn hl ha (k := 15) (by decide) h with ⟨p1, l1, b1, a1, k1, m1, t1, f1, q1, n1, s1, w1, g3, c, ti, gg⟩ | ⟨c, ti⟩
    · rcases all_8 hn hl ha hj hf nr1 nr2 w0 w9 fa ft pl td h2 g3 with ⟨p9, o9, l9, b9, a9, k9, m9, t9, f9, q9, n9, s9, v9, td9, u3, u4, u5, qc1, qr1⟩ | ⟨g, P, hg, ⟨x0, x1, x2, x3, qc1⟩, y0, y1, y2, y3, y4, y5, y6, y7, qr1⟩
      · exact absurd u3 (by omega)
      · obtain ⟨mc, rfl⟩ : ∃ z, mc = z + 1 := ⟨mc - 1, by omega⟩
        have qc : y_X8_readCond_8_8 (nI n) (nI lm) F (nI j) (nI f) N2 N1 (mc + 1 + 1) (nI i) (nI o) 0 fa lt bh av kd nm = (x0, g, P, 0, x1, x2, 0, x3) := by rw [y_X8_readCond_8_8_s, if_neg (show ¬ (20 : Int32) ≤ nI i from nI_ge (b := 20) (by omega) (by omega)), ti, lt6_t, if_neg oz, qc1, lt8_t, if_neg hg, lt1_v, nI_1, condB_8]
        have qr : y_X12_readOr_7_14 (nI n) (nI lm) G now M (mr + 1) to fr kd' nm' sg ft pl wd td (nI o) = (0, y0, y1, y2, y3, y4, g, P, y5, y6, y7) := by rw [y_X12_readOr_7_14_s, isWord_v15, if_pos c, lt1_v, if_neg oz, gg, lt6_t, qr1, lt11_t, if_pos rfl]
        exact Or.inr ⟨g, P, hg, ⟨_, _, _, _, qc⟩, _, _, _, _, _, _, _, _, qr⟩
    · have qc : y_X8_readCond_8_8 (nI n) (nI lm) F (nI j) (nI f) N2 N1 (mc + 1) (nI i) (nI o) 0 fa lt bh av kd nm = (nI o, 0, fa, lt, bh, av, kd, nm) := by rw [y_X8_readCond_8_8_s, if_neg (show ¬ (20 : Int32) ≤ nI i from nI_ge (b := 20) (by omega) (by omega)), ti, lt6_t, if_pos rfl]
      have qr : y_X12_readOr_7_14 (nI n) (nI lm) G now M (mr + 1) to fr kd' nm' sg ft pl wd td (nI o) = (1, to, fr, kd', nm', sg, ft, pl, wd, td, nI o) := by rw [y_X12_readOr_7_14_s, isWord_v15, if_neg c, lt1_v, if_pos rfl]
      exact Or.inl ⟨p, o, lt, bh, av, kd, nm, to, fr, kd', nm', sg, wd, td, Nat.le_refl _, h2, h, qc, qr⟩
  | succ u ih =>
    intro p o i mc mr lt bh av kd nm to fr kd' nm' sg wd fa ft pl td h1 h2 h3 h4 h5 h
    obtain ⟨mc, rfl⟩ : ∃ z, mc = z + 1 := ⟨mc - 1, by omega⟩
    obtain ⟨mr, rfl⟩ : ∃ z, mr = z + 1 := ⟨mr - 1, by omega⟩
    rcases op_ifk hn hl ha (k := 15) (by decide) h with ⟨p1, l1, b1, a1, k1, m1, t1, f1, q1, n1, s1, w1, g3, c, ti, gg⟩ | ⟨c, ti⟩
    · rcases all_8 hn hl ha hj hf nr1 nr2 w0 w9 fa ft pl td h2 g3 with ⟨p9, o9, l9, b9, a9, k9, m9, t9, f9, q9, n9, s9, v9, td9, u3, u4, u5, qc1, qr1⟩ | ⟨g, P, hg, ⟨x0, x1, x2, x3, qc1⟩, y0, y1, y2, y3, y4, y5, y6, y7, qr1⟩
      · have ec : y_X8_readCond_8_8 (nI n) (nI lm) F (nI j) (nI f) N2 N1 (mc + 1) (nI i) (nI o) 0 fa lt bh av kd nm = y_X8_readCond_8_8 (nI n) (nI lm) F (nI j) (nI f) N2 N1 mc (nI (i + 1)) (nI o9) 0 fa l9 b9 a9 k9 m9 := by rw [y_X8_readCond_8_8_s, if_neg (show ¬ (20 : Int32) ≤ nI i from nI_ge (b := 20) (by omega) (by omega)), ti, lt6_t, if_neg oz, qc1, lt8_t, if_pos rfl, lt1_v, nI_1]
        have er : y_X12_readOr_7_14 (nI n) (nI lm) G now M (mr + 1) to fr kd' nm' sg ft pl wd td (nI o) = y_X12_readOr_7_14 (nI n) (nI lm) G now M mr t9 f9 q9 n9 s9 ft pl v9 td9 (nI o9) := by rw [y_X12_readOr_7_14_s, isWord_v15, if_pos c, lt1_v, if_neg oz, gg, lt6_t, qr1, lt11_t, if_neg oz]
        rw [ec, er]
        exact (ih fa ft pl td9 (by omega) u4 (by omega) (by omega) (by omega) u5).mono (by omega)
      · obtain ⟨mc, rfl⟩ : ∃ z, mc = z + 1 := ⟨mc - 1, by omega⟩
        have qc : y_X8_readCond_8_8 (nI n) (nI lm) F (nI j) (nI f) N2 N1 (mc + 1 + 1) (nI i) (nI o) 0 fa lt bh av kd nm = (x0, g, P, 0, x1, x2, 0, x3) := by rw [y_X8_readCond_8_8_s, if_neg (show ¬ (20 : Int32) ≤ nI i from nI_ge (b := 20) (by omega) (by omega)), ti, lt6_t, if_neg oz, qc1, lt8_t, if_neg hg, lt1_v, nI_1, condB_8]
        have qr : y_X12_readOr_7_14 (nI n) (nI lm) G now M (mr + 1) to fr kd' nm' sg ft pl wd td (nI o) = (0, y0, y1, y2, y3, y4, g, P, y5, y6, y7) := by rw [y_X12_readOr_7_14_s, isWord_v15, if_pos c, lt1_v, if_neg oz, gg, lt6_t, qr1, lt11_t, if_pos rfl]
        exact Or.inr ⟨g, P, hg, ⟨_, _, _, _, qc⟩, _, _, _, _, _, _, _, _, qr⟩
    · have qc : y_X8_readCond_8_8 (nI n) (nI lm) F (nI j) (nI f) N2 N1 (mc + 1) (nI i) (nI o) 0 fa lt bh av kd nm = (nI o, 0, fa, lt, bh, av, kd, nm) := by rw [y_X8_readCond_8_8_s, if_neg (show ¬ (20 : Int32) ≤ nI i from nI_ge (b := 20) (by omega) (by omega)), ti, lt6_t, if_pos rfl]
      have qr : y_X12_readOr_7_14 (nI n) (nI lm) G now M (mr + 1) to fr kd' nm' sg ft pl wd td (nI o) = (1, to, fr, kd', nm', sg, ft, pl, wd, td, nI o) := by rw [y_X12_readOr_7_14_s, isWord_v15, if_neg c, lt1_v, if_pos rfl]
      exact Or.inl ⟨p, o, lt, bh, av, kd, nm, to, fr, kd', nm', sg, wd, td, Nat.le_refl _, h2, h, qc, qr⟩
theorem cond_8 {n lm : Nat} (hn : n ≤ 940) (hl : lm ≤ 940) {F G : Nat → Int32} (ha : ∀ j, j < n → F j = G j) {j f : Nat} (hj : j ≤ 10) (hf : f ≤ 4) {N1 N2 M : Nat → Int64} (nr1 : NR 0 j N1 M) (nr2 : NR 10 f N2 M) {now : Nat → Int32} (w0 : now 0 = nI j) (w9 : now 1 = nI f) {p o : Nat} {lt : Int64} {bh av kd nm to fr kd' nm' sg : Int32} {wd : Int64} (fa ft pl td : Int32) (ho : o ≤ 20) (h : TR n p lt bh av kd nm to fr kd' nm' sg wd) :
    SO n fa ft pl (o + 1) (y_X8_readCond_8 (nI o) (nI n) 0 fa lt (nI lm) bh av kd nm F (nI j) (nI f) N2 N1) (y_X12_readOr_7 (nI n) (nI lm) to fr kd' nm' sg ft pl wd td (nI o) G now M) := by
  rcases all_8 hn hl ha hj hf nr1 nr2 w0 w9 fa ft pl td ho h with ⟨p9, o9, l9, b9, a9, k9, m9, t9, f9, q9, n9, s9, v9, td9, u3, u4, u5, qc1, qr1⟩ | ⟨g, P, hg, ⟨x0, x1, x2, x3, qc1⟩, y0, y1, y2, y3, y4, y5, y6, y7, qr1⟩
  · rw [y_X8_readCond_8_s, qc1, lt8_t, y_X12_readOr_7_s, qr1, lt11_t, if_neg oz]
    exact (condL_8 hn hl ha hj hf nr1 nr2 w0 w9 19 (i := 0) fa ft pl td9 (by omega) u4 (by omega) (by omega) (by omega) u5).mono u3
  · have qc : y_X8_readCond_8 (nI o) (nI n) 0 fa lt (nI lm) bh av kd nm F (nI j) (nI f) N2 N1 = (x0, g, P, 0, x1, x2, 0, x3) := by rw [y_X8_readCond_8_s, qc1, lt8_t, condB_8]
    have qr : y_X12_readOr_7 (nI n) (nI lm) to fr kd' nm' sg ft pl wd td (nI o) G now M = (0, y0, y1, y2, y3, y4, g, P, y5, y6, y7) := by rw [y_X12_readOr_7_s, qr1, lt11_t, if_pos rfl]
    exact Or.inr ⟨g, P, hg, ⟨_, _, _, _, qc⟩, _, _, _, _, _, _, _, _, qr⟩
