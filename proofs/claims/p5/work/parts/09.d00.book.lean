theorem isWord_v12 (kd : Int32) (wd : Int64) : y_X12_isWord_12 kd wd = if kd = 2 ∧ wd = wv 12 then 1 else 0 := by
  rw [y_X12_isWord_12_s]; simp only [lt1, cmp0]; rw [show wv 12 = 15091 from by decide +kernel]
  by_cases a : kd = 2 <;> by_cases b : wd = 15091 <;> simp [a, b]
theorem isWord_v13 (kd : Int32) (wd : Int64) : y_X12_isWord_13 kd wd = if kd = 2 ∧ wd = wv 13 then 1 else 0 := by
  rw [y_X12_isWord_13_s]; simp only [lt1, cmp0]; rw [show wv 13 = 23170575 from by decide +kernel]
  by_cases a : kd = 2 <;> by_cases b : wd = 23170575 <;> simp [a, b]
theorem isWord_v14 (kd : Int32) (wd : Int64) : y_X12_isWord_14 kd wd = if kd = 2 ∧ wd = wv 14 then 1 else 0 := by
  rw [y_X12_isWord_14_s]; simp only [lt1, cmp0]; rw [show wv 14 = 2968 from by decide +kernel]
  by_cases a : kd = 2 <;> by_cases b : wd = 2968 <;> simp [a, b]
theorem isW_12_13 {kd : Int32} {wd : Int64} (h1 : 1 = y_X12_isWord_12 kd wd) (h2 : 1 = y_X12_isWord_13 kd wd) : False := by
  rw [isWord_v12] at h1
  rw [isWord_v13] at h2
  by_cases a : kd = 2 ∧ wd = wv 12
  · by_cases b : kd = 2 ∧ wd = wv 13
    · exact absurd (wv_inj 12 (by decide) 13 (by decide) (a.2.symm.trans b.2)) (by decide)
    · rw [if_neg b] at h2; exact oz h2
  · rw [if_neg a] at h1; exact oz h1
theorem isW_12_14 {kd : Int32} {wd : Int64} (h1 : 1 = y_X12_isWord_12 kd wd) (h2 : 1 = y_X12_isWord_14 kd wd) : False := by
  rw [isWord_v12] at h1
  rw [isWord_v14] at h2
  by_cases a : kd = 2 ∧ wd = wv 12
  · by_cases b : kd = 2 ∧ wd = wv 14
    · exact absurd (wv_inj 12 (by decide) 14 (by decide) (a.2.symm.trans b.2)) (by decide)
    · rw [if_neg b] at h2; exact oz h2
  · rw [if_neg a] at h1; exact oz h1
theorem isW_13_14 {kd : Int32} {wd : Int64} (h1 : 1 = y_X12_isWord_13 kd wd) (h2 : 1 = y_X12_isWord_14 kd wd) : False := by
  rw [isWord_v13] at h1
  rw [isWord_v14] at h2
  by_cases a : kd = 2 ∧ wd = wv 13
  · by_cases b : kd = 2 ∧ wd = wv 14
    · exact absurd (wv_inj 13 (by decide) 14 (by decide) (a.2.symm.trans b.2)) (by decide)
    · rw [if_neg b] at h2; exact oz h2
  · rw [if_neg a] at h1; exact oz h1
def feq (a b : Int32) : Prop := a = b
theorem place5 {L : Int64} {N : Nat → Int64} {many : Nat} (hm : many ≤ 5) : y_X5_placeOf_5 (nI many) L N = (-1) ∨ ∃ k, k < many ∧ y_X5_placeOf_5 (nI many) L N = nI k := by
  have key : ∀ d i n : Nat, i + d = many → d < n → y_X5_placeOf_5_3 (nI many) L N n (nI i) = (-1) ∨ ∃ k, k < many ∧ y_X5_placeOf_5_3 (nI many) L N n (nI i) = nI k := by
    intro d
    induction d with
    | zero =>
      intro i n h1 h2
      obtain ⟨n, rfl⟩ : ∃ k, n = k + 1 := ⟨n - 1, by omega⟩
      rw [y_X5_placeOf_5_3_s, if_pos (nI_le (by omega) (by omega))]
      exact Or.inl rfl
    | succ d ih =>
      intro i n h1 h2
      obtain ⟨n, rfl⟩ : ∃ k, n = k + 1 := ⟨n - 1, by omega⟩
      rw [y_X5_placeOf_5_3_s, if_neg (nI_ge (by omega) (by omega))]
      simp only [lt1, cmp0, nI_clamp (show i < 2 ^ 31 by omega), nI_1]
      by_cases z : N i = L
      · rw [if_pos z]; exact Or.inr ⟨i, by omega, rfl⟩
      · rw [if_neg z]; exact ih (i + 1) n (by omega) (by omega)
  rw [y_X5_placeOf_5_s]
  exact key many 0 _ (by omega) (by omega)
theorem named_c {n p lm : Nat} (hn : n ≤ 940) (hl : lm ≤ 940) {F G : Nat → Int32} (ha : ∀ j, j < n → F j = G j) {lt : Int64} {bh av kd nm to fr kd' nm' sg : Int32} {wd : Int64} (fa ft pl td : Int32) {x : Nat} {N M : Nat → Int64} (hx : x ≤ 5) (nr : NR 14 x N M) (h : TR n p lt bh av kd nm to fr kd' nm' sg wd) :
    (∃ (p1 : Nat) (l1 : Int64) (b1 a1 k1 m1 t1 f1 q1 n1 s1 : Int32) (w1 : Int64) (k : Nat), TR n p1 l1 b1 a1 k1 m1 t1 f1 q1 n1 s1 w1 ∧ k < x ∧ y_X6_takeFound (y_X5_caseNamed lt (nI x) N) (nI n) 0 fa lt (nI lm) bh av kd nm F = (nI k, 0, fa, l1, b1, a1, k1, m1) ∧ y_X12_readNamed_c (nI x) (nI n) (nI lm) to fr kd' nm' sg ft pl wd td M G = (1, t1, f1, q1, n1, s1, ft, pl, w1, nI k)) ∨
    (∃ g td' : Int32, ¬ g = 0 ∧ y_X6_takeFound (y_X5_caseNamed lt (nI x) N) (nI n) 0 fa lt (nI lm) bh av kd nm F = ((-1), g, fr, 0, bh, av, 0, nm) ∧ y_X12_readNamed_c (nI x) (nI n) (nI lm) to fr kd' nm' sg ft pl wd td M G = (0, to, fr, kd', nm', sg, g, fr, wd, td')) := by
  by_cases c0 : y_X12_isName kd' wd = 0
  · refine Or.inr ⟨1, td, by decide, ?_, ?_⟩
    · rw [found_bad fa h (Or.inl c0), if_pos c0]
    · rw [y_X12_readNamed_c_s, c0, lt1_v, if_pos rfl, bad_v, ite_self, lt2_t]
  · have en := name_w h.kr
    have hk : kd = 2 := name_k (by rw [en]; exact c0)
    rcases h.kr with ⟨-, k2, k3⟩ | ⟨k1, -⟩
    · have qq := find5 k3 hx nr
      rw [cn_v]
      rcases place5 (L := lt) (N := N) hx with e | ⟨k, hk', e⟩
      · refine Or.inr ⟨3, (-1), by decide, ?_, ?_⟩
        · rw [e, found_bad fa h (Or.inr rfl), if_neg c0]
        · rw [y_X12_readNamed_c_s, lt1_v, if_neg c0, ← qq, e, lt1_v, if_pos rfl, bad_v, if_neg (show ¬ kd' = 1 by rw [k2]; decide), lt2_t]
      · obtain ⟨p1, l1, b1, a1, k1, m1, t1, f1, q1, n1, s1, w1, g1, g2, g3, g4, g5⟩ := found_ok hn hl ha fa (nI_m1 (show k ≤ 940 by omega)) c0 h
        refine Or.inl ⟨p1, l1, b1, a1, k1, m1, t1, f1, q1, n1, s1, w1, k, g3, hk', ?_, ?_⟩
        · rw [e]; exact g4
        · rw [y_X12_readNamed_c_s, lt1_v, if_neg c0, ← qq, e, lt1_v, if_neg (nI_m1 (show k ≤ 940 by omega)), g5, lt6_t]
    · exact absurd hk k1
theorem act_v {lt wd : Int64} {kd kd' : Int32} (h : KR lt kd wd kd') : y_X1_firstAct lt kd = if kd' = 2 ∧ wd = wv 12 then 5 else if kd' = 2 ∧ wd = wv 13 then 6 else if kd' = 2 ∧ wd = wv 14 then 7 else (-1) := by
  rw [y_X1_firstAct_s, sees_w h (show 12 < 26 by decide), sees_w h (show 13 < 26 by decide), sees_w h (show 14 < 26 by decide), lt1_v]
  by_cases a : kd' = 2 ∧ wd = wv 12
  · rw [if_pos a, if_pos a, if_neg oz]
  · rw [if_neg a, if_neg a, if_pos rfl, lt1_v]
    by_cases b : kd' = 2 ∧ wd = wv 13
    · rw [if_pos b, if_pos b, if_neg oz]
    · rw [if_neg b, if_neg b, if_pos rfl, lt1_v]
      by_cases c : kd' = 2 ∧ wd = wv 14
      · rw [if_pos c, if_pos c, if_neg oz]
      · rw [if_neg c, if_neg c, if_pos rfl]
theorem tjaB {g P n lm bh av nm : Int32} {F : Nat → Int32} (h : ¬ g = 0) : y_X1_takeJurorsAct n g P 0 lm bh av 0 nm F = ((-1), g, P, 0, bh, av, 0, nm) := by
  rw [y_X1_takeJurorsAct_s, if1, lt6_t, if_pos rfl, if1, lt6_t, if_pos rfl, if1, lt6_t, if_pos rfl, if1, lt6_t, if_pos rfl, if1, lt6_t, if_pos rfl, fail1 h, lt4_t]
theorem dl {n lm : Nat} {to fr kd' nm' sg ft pl : Int32} {wd : Int64} {G : Nat → Int32} {w : Nat} (hw : 7 ≤ w) (hw' : w ≤ 12) (hno : ∀ q, 7 ≤ q → q < w → ¬ (kd' = 2 ∧ wd = wv q)) : ∃ m : Nat, y_X12_readDoes (nI n) (nI lm) to fr kd' nm' sg ft pl wd G = y_X12_readDoes_3 (nI n) (nI lm) to fr kd' nm' sg ft pl wd G (m + 1) (nI w) := by
  have key : ∀ (u i m : Nat), i + u = w → 7 ≤ i → y_X12_readDoes_3 (nI n) (nI lm) to fr kd' nm' sg ft pl wd G (m + u) (nI i) = y_X12_readDoes_3 (nI n) (nI lm) to fr kd' nm' sg ft pl wd G m (nI w) := by
    intro u
    induction u with
    | zero =>
      intro i m h1 h2
      have e : i = w := by omega
      rw [e, Nat.add_zero]
    | succ u ih =>
      intro i m h1 h2
      rw [← Nat.add_assoc, y_X12_readDoes_3_s, if_neg (nlt.mpr (show nI i ≤ (11 : Int32) from nI_le (b := 11) (by omega) (by omega))), isWordG (show i < 26 by omega), if_neg (hno i h2 (by omega)), lt1_v, if_pos rfl, lt1_v, nI_1]
      exact ih (i + 1) m (by omega) (by omega)
  refine ⟨12 - w, ?_⟩
  have e := key (w - 7) 7 (12 - w + 1) (by omega) (by omega)
  rw [show 12 - w + 1 + (w - 7) = 6 from by omega] at e
  rw [y_X12_readDoes_s]
  exact e
theorem does {n p lm : Nat} (hn : n ≤ 940) (hl : lm ≤ 940) {F G : Nat → Int32} (ha : ∀ j, j < n → F j = G j) {lt : Int64} {bh av kd nm to fr kd' nm' sg : Int32} {wd : Int64} (fa ft pl : Int32) (h : TR n p lt bh av kd nm to fr kd' nm' sg wd) :
    (∃ (p1 : Nat) (l1 : Int64) (b1 a1 k1 m1 t1 f1 q1 n1 s1 : Int32) (w1 : Int64) (k : Nat), TR n p1 l1 b1 a1 k1 m1 t1 f1 q1 n1 s1 w1 ∧ k < 5 ∧ y_X1_takeJurorsAct (nI n) 0 fa lt (nI lm) bh av kd nm F = (nI k, 0, fa, l1, b1, a1, k1, m1) ∧ y_X12_readDoes (nI n) (nI lm) to fr kd' nm' sg ft pl wd G = (1, t1, f1, q1, n1, s1, ft, pl, w1)) ∨
    (y_X1_takeJurorsAct (nI n) 0 fa lt (nI lm) bh av kd nm F = ((-1), 1, fr, 0, bh, av, 0, nm) ∧ y_X12_readDoes (nI n) (nI lm) to fr kd' nm' sg ft pl wd G = (0, to, fr, kd', nm', sg, 1, fr, wd)) := by
  have e0 := h.1
  rcases op_ifk hn hl ha (k := 7) (by decide) h with ⟨p1, l1, b1, a1, k1, m1, t1, f1, q1, n1, s1, w1, g3, c, ti, gg⟩ | ⟨c7, ti7⟩
  · obtain ⟨m, em⟩ := dl (n := n) (lm := lm) (to := to) (fr := fr) (kd' := kd') (nm' := nm') (sg := sg) (ft := ft) (pl := pl) (wd := wd) (G := G) (w := 7) (by decide) (by decide) (fun q a b => absurd b (by omega))
    have qc : y_X1_takeJurorsAct (nI n) 0 fa lt (nI lm) bh av kd nm F = (nI 0, 0, fa, l1, b1, a1, k1, m1) := by rw [y_X1_takeJurorsAct_s, ti, lt6_t, if_neg oz]; rfl
    have qr : y_X12_readDoes (nI n) (nI lm) to fr kd' nm' sg ft pl wd G = (1, t1, f1, q1, n1, s1, ft, pl, w1) := by rw [em, y_X12_readDoes_3_s, if_neg (nlt.mpr (show nI 7 ≤ (11 : Int32) from by decide)), isWordG (show 7 < 26 by decide), if_pos c, lt1_v, if_neg oz, y_X12_readDoes_23_s, if_pos (show nI 7 ≤ (11 : Int32) from by decide), gg, lt6_t]
    exact Or.inl ⟨p1, l1, b1, a1, k1, m1, t1, f1, q1, n1, s1, w1, 0, g3, by decide, qc, qr⟩
  rcases op_ifk hn hl ha (k := 8) (by decide) h with ⟨p1, l1, b1, a1, k1, m1, t1, f1, q1, n1, s1, w1, g3, c, ti, gg⟩ | ⟨c8, ti8⟩
  · obtain ⟨m, em⟩ := dl (n := n) (lm := lm) (to := to) (fr := fr) (kd' := kd') (nm' := nm') (sg := sg) (ft := ft) (pl := pl) (wd := wd) (G := G) (w := 8) (by decide) (by decide) (fun q a b => by
        have e : q = 7 := by omega
        rcases e with rfl
        · exact c7)
    have qc : y_X1_takeJurorsAct (nI n) 0 fa lt (nI lm) bh av kd nm F = (nI 1, 0, fa, l1, b1, a1, k1, m1) := by rw [y_X1_takeJurorsAct_s, ti7, lt6_t, if_pos rfl, ti, lt6_t, if_neg oz]; rfl
    have qr : y_X12_readDoes (nI n) (nI lm) to fr kd' nm' sg ft pl wd G = (1, t1, f1, q1, n1, s1, ft, pl, w1) := by rw [em, y_X12_readDoes_3_s, if_neg (nlt.mpr (show nI 8 ≤ (11 : Int32) from by decide)), isWordG (show 8 < 26 by decide), if_pos c, lt1_v, if_neg oz, y_X12_readDoes_23_s, if_pos (show nI 8 ≤ (11 : Int32) from by decide), gg, lt6_t]
    exact Or.inl ⟨p1, l1, b1, a1, k1, m1, t1, f1, q1, n1, s1, w1, 1, g3, by decide, qc, qr⟩
  rcases op_ifk hn hl ha (k := 9) (by decide) h with ⟨p1, l1, b1, a1, k1, m1, t1, f1, q1, n1, s1, w1, g3, c, ti, gg⟩ | ⟨c9, ti9⟩
  · obtain ⟨m, em⟩ := dl (n := n) (lm := lm) (to := to) (fr := fr) (kd' := kd') (nm' := nm') (sg := sg) (ft := ft) (pl := pl) (wd := wd) (G := G) (w := 9) (by decide) (by decide) (fun q a b => by
        have e : q = 7 ∨ q = 8 := by omega
        rcases e with rfl | rfl
        · exact c7
        · exact c8)
    have qc : y_X1_takeJurorsAct (nI n) 0 fa lt (nI lm) bh av kd nm F = (nI 2, 0, fa, l1, b1, a1, k1, m1) := by rw [y_X1_takeJurorsAct_s, ti7, lt6_t, if_pos rfl, ti8, lt6_t, if_pos rfl, ti, lt6_t, if_neg oz]; rfl
    have qr : y_X12_readDoes (nI n) (nI lm) to fr kd' nm' sg ft pl wd G = (1, t1, f1, q1, n1, s1, ft, pl, w1) := by rw [em, y_X12_readDoes_3_s, if_neg (nlt.mpr (show nI 9 ≤ (11 : Int32) from by decide)), isWordG (show 9 < 26 by decide), if_pos c, lt1_v, if_neg oz, y_X12_readDoes_23_s, if_pos (show nI 9 ≤ (11 : Int32) from by decide), gg, lt6_t]
    exact Or.inl ⟨p1, l1, b1, a1, k1, m1, t1, f1, q1, n1, s1, w1, 2, g3, by decide, qc, qr⟩
  rcases op_ifk hn hl ha (k := 10) (by decide) h with ⟨p1, l1, b1, a1, k1, m1, t1, f1, q1, n1, s1, w1, g3, c, ti, gg⟩ | ⟨c10, ti10⟩
  · obtain ⟨m, em⟩ := dl (n := n) (lm := lm) (to := to) (fr := fr) (kd' := kd') (nm' := nm') (sg := sg) (ft := ft) (pl := pl) (wd := wd) (G := G) (w := 10) (by decide) (by decide) (fun q a b => by
        have e : q = 7 ∨ q = 8 ∨ q = 9 := by omega
        rcases e with rfl | rfl | rfl
        · exact c7
        · exact c8
        · exact c9)
    have qc : y_X1_takeJurorsAct (nI n) 0 fa lt (nI lm) bh av kd nm F = (nI 3, 0, fa, l1, b1, a1, k1, m1) := by rw [y_X1_takeJurorsAct_s, ti7, lt6_t, if_pos rfl, ti8, lt6_t, if_pos rfl, ti9, lt6_t, if_pos rfl, ti, lt6_t, if_neg oz]; rfl
    have qr : y_X12_readDoes (nI n) (nI lm) to fr kd' nm' sg ft pl wd G = (1, t1, f1, q1, n1, s1, ft, pl, w1) := by rw [em, y_X12_readDoes_3_s, if_neg (nlt.mpr (show nI 10 ≤ (11 : Int32) from by decide)), isWordG (show 10 < 26 by decide), if_pos c, lt1_v, if_neg oz, y_X12_readDoes_23_s, if_pos (show nI 10 ≤ (11 : Int32) from by decide), gg, lt6_t]
    exact Or.inl ⟨p1, l1, b1, a1, k1, m1, t1, f1, q1, n1, s1, w1, 3, g3, by decide, qc, qr⟩
  rcases op_ifk hn hl ha (k := 11) (by decide) h with ⟨p1, l1, b1, a1, k1, m1, t1, f1, q1, n1, s1, w1, g3, c, ti, gg⟩ | ⟨c11, ti11⟩
  · obtain ⟨m, em⟩ := dl (n := n) (lm := lm) (to := to) (fr := fr) (kd' := kd') (nm' := nm') (sg := sg) (ft := ft) (pl := pl) (wd := wd) (G := G) (w := 11) (by decide) (by decide) (fun q a b => by
        have e : q = 7 ∨ q = 8 ∨ q = 9 ∨ q = 10 := by omega
        rcases e with rfl | rfl | rfl | rfl
        · exact c7
        · exact c8
        · exact c9
        · exact c10)
    have qc : y_X1_takeJurorsAct (nI n) 0 fa lt (nI lm) bh av kd nm F = (nI 4, 0, fa, l1, b1, a1, k1, m1) := by rw [y_X1_takeJurorsAct_s, ti7, lt6_t, if_pos rfl, ti8, lt6_t, if_pos rfl, ti9, lt6_t, if_pos rfl, ti10, lt6_t, if_pos rfl, ti, lt6_t, if_neg oz]; rfl
    have qr : y_X12_readDoes (nI n) (nI lm) to fr kd' nm' sg ft pl wd G = (1, t1, f1, q1, n1, s1, ft, pl, w1) := by rw [em, y_X12_readDoes_3_s, if_neg (nlt.mpr (show nI 11 ≤ (11 : Int32) from by decide)), isWordG (show 11 < 26 by decide), if_pos c, lt1_v, if_neg oz, y_X12_readDoes_23_s, if_pos (show nI 11 ≤ (11 : Int32) from by decide), gg, lt6_t]
    exact Or.inl ⟨p1, l1, b1, a1, k1, m1, t1, f1, q1, n1, s1, w1, 4, g3, by decide, qc, qr⟩
  obtain ⟨m, em⟩ := dl (n := n) (lm := lm) (to := to) (fr := fr) (kd' := kd') (nm' := nm') (sg := sg) (ft := ft) (pl := pl) (wd := wd) (G := G) (w := 12) (by decide) (by decide) (fun q a b => by
      have e : q = 7 ∨ q = 8 ∨ q = 9 ∨ q = 10 ∨ q = 11 := by omega
      rcases e with rfl | rfl | rfl | rfl | rfl
      · exact c7
      · exact c8
      · exact c9
      · exact c10
      · exact c11)
  refine Or.inr ⟨?_, ?_⟩
  · rw [y_X1_takeJurorsAct_s, ti7, lt6_t, if_pos rfl, ti8, lt6_t, if_pos rfl, ti9, lt6_t, if_pos rfl, ti10, lt6_t, if_pos rfl, ti11, lt6_t, if_pos rfl, fail0, lt4_t, e0]
  · rw [em, y_X12_readDoes_3_s, if_pos (show (11 : Int32) < nI 12 from by decide), y_X12_readDoes_23_s, if_neg (show ¬ nI 12 ≤ (11 : Int32) from by decide), bad_v, ite_self, lt2_t]
