theorem sl_8 {o : Nat} {kd' : Int32} {wd : Int64} (op : Int32) {w : Nat} (hw : 17 ≤ w) (hw' : w ≤ 26) (hno : ∀ q, 17 ≤ q → q < w → ¬ (kd' = 2 ∧ wd = wv q)) : ∃ m : Nat, y_X12_readSaid_8_10 kd' wd (nI o) 10 op 17 = y_X12_readSaid_8_10 kd' wd (nI o) (m + 1) op (nI w) := by
  have key : ∀ (u i m : Nat), i + u = w → 17 ≤ i → y_X12_readSaid_8_10 kd' wd (nI o) (m + u) op (nI i) = y_X12_readSaid_8_10 kd' wd (nI o) m op (nI w) := by
    intro u
    induction u with
    | zero =>
      intro i m h1 h2
      have e : i = w := by omega
      rw [e, Nat.add_zero]
    | succ u ih =>
      intro i m h1 h2
      rw [← Nat.add_assoc, y_X12_readSaid_8_10_s, if_neg (nlt.mpr (show nI i ≤ (25 : Int32) from nI_le (b := 25) (by omega) (by omega))), isWordG (show i < 26 by omega), if_neg (hno i h2 (by omega)), lt1_v, if_pos rfl, lt1_v, nI_1]
      exact ih (i + 1) m (by omega) (by omega)
  refine ⟨26 - w, ?_⟩
  have e := key (w - 17) 17 (26 - w + 1) (by omega) (by omega)
  rw [show 26 - w + 1 + (w - 17) = 10 from by omega] at e
  exact e
theorem sl_7 {n lm o : Nat} {to fr kd' nm' sg ft pl td : Int32} {wd : Int64} {G now : Nat → Int32} {M : Nat → Int64} (op : Int32) {w : Nat} (hw : 17 ≤ w) (hw' : w ≤ 26) (hno : ∀ q, 17 ≤ q → q < w → ¬ (kd' = 2 ∧ wd = wv q)) : ∃ m : Nat, y_X12_readSaid_7_10 (nI n) (nI lm) to fr kd' nm' sg ft pl wd td (nI o) G now M 10 op 17 = y_X12_readSaid_7_10 (nI n) (nI lm) to fr kd' nm' sg ft pl wd td (nI o) G now M (m + 1) op (nI w) := by
  have key : ∀ (u i m : Nat), i + u = w → 17 ≤ i → y_X12_readSaid_7_10 (nI n) (nI lm) to fr kd' nm' sg ft pl wd td (nI o) G now M (m + u) op (nI i) = y_X12_readSaid_7_10 (nI n) (nI lm) to fr kd' nm' sg ft pl wd td (nI o) G now M m op (nI w) := by
    intro u
    induction u with
    | zero =>
      intro i m h1 h2
      have e : i = w := by omega
      rw [e, Nat.add_zero]
    | succ u ih =>
      intro i m h1 h2
      rw [← Nat.add_assoc, y_X12_readSaid_7_10_s, if_neg (nlt.mpr (show nI i ≤ (25 : Int32) from nI_le (b := 25) (by omega) (by omega))), isWordG (show i < 26 by omega), if_neg (hno i h2 (by omega)), lt1_v, if_pos rfl, lt1_v, nI_1]
      exact ih (i + 1) m (by omega) (by omega)
  refine ⟨26 - w, ?_⟩
  have e := key (w - 17) 17 (26 - w + 1) (by omega) (by omega)
  rw [show 26 - w + 1 + (w - 17) = 10 from by omega] at e
  exact e
theorem sl_6 {n lm o : Nat} {to fr kd' nm' sg ft pl td : Int32} {wd : Int64} {G now : Nat → Int32} {M : Nat → Int64} (op : Int32) {w : Nat} (hw : 17 ≤ w) (hw' : w ≤ 26) (hno : ∀ q, 17 ≤ q → q < w → ¬ (kd' = 2 ∧ wd = wv q)) : ∃ m : Nat, y_X12_readSaid_6_10 (nI n) (nI lm) to fr kd' nm' sg ft pl wd td (nI o) G now M 10 op 17 = y_X12_readSaid_6_10 (nI n) (nI lm) to fr kd' nm' sg ft pl wd td (nI o) G now M (m + 1) op (nI w) := by
  have key : ∀ (u i m : Nat), i + u = w → 17 ≤ i → y_X12_readSaid_6_10 (nI n) (nI lm) to fr kd' nm' sg ft pl wd td (nI o) G now M (m + u) op (nI i) = y_X12_readSaid_6_10 (nI n) (nI lm) to fr kd' nm' sg ft pl wd td (nI o) G now M m op (nI w) := by
    intro u
    induction u with
    | zero =>
      intro i m h1 h2
      have e : i = w := by omega
      rw [e, Nat.add_zero]
    | succ u ih =>
      intro i m h1 h2
      rw [← Nat.add_assoc, y_X12_readSaid_6_10_s, if_neg (nlt.mpr (show nI i ≤ (25 : Int32) from nI_le (b := 25) (by omega) (by omega))), isWordG (show i < 26 by omega), if_neg (hno i h2 (by omega)), lt1_v, if_pos rfl, lt1_v, nI_1]
      exact ih (i + 1) m (by omega) (by omega)
  refine ⟨26 - w, ?_⟩
  have e := key (w - 17) 17 (26 - w + 1) (by omega) (by omega)
  rw [show 26 - w + 1 + (w - 17) = 10 from by omega] at e
  exact e
theorem sl_5 {n lm o : Nat} {to fr kd' nm' sg ft pl td : Int32} {wd : Int64} {G now : Nat → Int32} {M : Nat → Int64} (op : Int32) {w : Nat} (hw : 17 ≤ w) (hw' : w ≤ 26) (hno : ∀ q, 17 ≤ q → q < w → ¬ (kd' = 2 ∧ wd = wv q)) : ∃ m : Nat, y_X12_readSaid_5_10 (nI n) (nI lm) to fr kd' nm' sg ft pl wd td (nI o) G now M 10 op 17 = y_X12_readSaid_5_10 (nI n) (nI lm) to fr kd' nm' sg ft pl wd td (nI o) G now M (m + 1) op (nI w) := by
  have key : ∀ (u i m : Nat), i + u = w → 17 ≤ i → y_X12_readSaid_5_10 (nI n) (nI lm) to fr kd' nm' sg ft pl wd td (nI o) G now M (m + u) op (nI i) = y_X12_readSaid_5_10 (nI n) (nI lm) to fr kd' nm' sg ft pl wd td (nI o) G now M m op (nI w) := by
    intro u
    induction u with
    | zero =>
      intro i m h1 h2
      have e : i = w := by omega
      rw [e, Nat.add_zero]
    | succ u ih =>
      intro i m h1 h2
      rw [← Nat.add_assoc, y_X12_readSaid_5_10_s, if_neg (nlt.mpr (show nI i ≤ (25 : Int32) from nI_le (b := 25) (by omega) (by omega))), isWordG (show i < 26 by omega), if_neg (hno i h2 (by omega)), lt1_v, if_pos rfl, lt1_v, nI_1]
      exact ih (i + 1) m (by omega) (by omega)
  refine ⟨26 - w, ?_⟩
  have e := key (w - 17) 17 (26 - w + 1) (by omega) (by omega)
  rw [show 26 - w + 1 + (w - 17) = 10 from by omega] at e
  exact e
theorem sl_4 {n lm o : Nat} {to fr kd' nm' sg ft pl td : Int32} {wd : Int64} {G now : Nat → Int32} {M : Nat → Int64} (op : Int32) {w : Nat} (hw : 17 ≤ w) (hw' : w ≤ 26) (hno : ∀ q, 17 ≤ q → q < w → ¬ (kd' = 2 ∧ wd = wv q)) : ∃ m : Nat, y_X12_readSaid_4_10 (nI n) (nI lm) to fr kd' nm' sg ft pl wd td (nI o) G now M 10 op 17 = y_X12_readSaid_4_10 (nI n) (nI lm) to fr kd' nm' sg ft pl wd td (nI o) G now M (m + 1) op (nI w) := by
  have key : ∀ (u i m : Nat), i + u = w → 17 ≤ i → y_X12_readSaid_4_10 (nI n) (nI lm) to fr kd' nm' sg ft pl wd td (nI o) G now M (m + u) op (nI i) = y_X12_readSaid_4_10 (nI n) (nI lm) to fr kd' nm' sg ft pl wd td (nI o) G now M m op (nI w) := by
    intro u
    induction u with
    | zero =>
      intro i m h1 h2
      have e : i = w := by omega
      rw [e, Nat.add_zero]
    | succ u ih =>
      intro i m h1 h2
      rw [← Nat.add_assoc, y_X12_readSaid_4_10_s, if_neg (nlt.mpr (show nI i ≤ (25 : Int32) from nI_le (b := 25) (by omega) (by omega))), isWordG (show i < 26 by omega), if_neg (hno i h2 (by omega)), lt1_v, if_pos rfl, lt1_v, nI_1]
      exact ih (i + 1) m (by omega) (by omega)
  refine ⟨26 - w, ?_⟩
  have e := key (w - 17) 17 (26 - w + 1) (by omega) (by omega)
  rw [show 26 - w + 1 + (w - 17) = 10 from by omega] at e
  exact e
theorem sl_3 {n lm o : Nat} {to fr kd' nm' sg ft pl td : Int32} {wd : Int64} {G now : Nat → Int32} {M : Nat → Int64} (op : Int32) {w : Nat} (hw : 17 ≤ w) (hw' : w ≤ 26) (hno : ∀ q, 17 ≤ q → q < w → ¬ (kd' = 2 ∧ wd = wv q)) : ∃ m : Nat, y_X12_readSaid_3_10 (nI n) (nI lm) to fr kd' nm' sg ft pl wd td (nI o) G now M 10 op 17 = y_X12_readSaid_3_10 (nI n) (nI lm) to fr kd' nm' sg ft pl wd td (nI o) G now M (m + 1) op (nI w) := by
  have key : ∀ (u i m : Nat), i + u = w → 17 ≤ i → y_X12_readSaid_3_10 (nI n) (nI lm) to fr kd' nm' sg ft pl wd td (nI o) G now M (m + u) op (nI i) = y_X12_readSaid_3_10 (nI n) (nI lm) to fr kd' nm' sg ft pl wd td (nI o) G now M m op (nI w) := by
    intro u
    induction u with
    | zero =>
      intro i m h1 h2
      have e : i = w := by omega
      rw [e, Nat.add_zero]
    | succ u ih =>
      intro i m h1 h2
      rw [← Nat.add_assoc, y_X12_readSaid_3_10_s, if_neg (nlt.mpr (show nI i ≤ (25 : Int32) from nI_le (b := 25) (by omega) (by omega))), isWordG (show i < 26 by omega), if_neg (hno i h2 (by omega)), lt1_v, if_pos rfl, lt1_v, nI_1]
      exact ih (i + 1) m (by omega) (by omega)
  refine ⟨26 - w, ?_⟩
  have e := key (w - 17) 17 (26 - w + 1) (by omega) (by omega)
  rw [show 26 - w + 1 + (w - 17) = 10 from by omega] at e
  exact e
theorem sl_2 {n lm o : Nat} {to fr kd' nm' sg ft pl td : Int32} {wd : Int64} {G now : Nat → Int32} {M : Nat → Int64} (op : Int32) {w : Nat} (hw : 17 ≤ w) (hw' : w ≤ 26) (hno : ∀ q, 17 ≤ q → q < w → ¬ (kd' = 2 ∧ wd = wv q)) : ∃ m : Nat, y_X12_readSaid_2_10 (nI n) (nI lm) to fr kd' nm' sg ft pl wd td (nI o) G now M 10 op 17 = y_X12_readSaid_2_10 (nI n) (nI lm) to fr kd' nm' sg ft pl wd td (nI o) G now M (m + 1) op (nI w) := by
  have key : ∀ (u i m : Nat), i + u = w → 17 ≤ i → y_X12_readSaid_2_10 (nI n) (nI lm) to fr kd' nm' sg ft pl wd td (nI o) G now M (m + u) op (nI i) = y_X12_readSaid_2_10 (nI n) (nI lm) to fr kd' nm' sg ft pl wd td (nI o) G now M m op (nI w) := by
    intro u
    induction u with
    | zero =>
      intro i m h1 h2
      have e : i = w := by omega
      rw [e, Nat.add_zero]
    | succ u ih =>
      intro i m h1 h2
      rw [← Nat.add_assoc, y_X12_readSaid_2_10_s, if_neg (nlt.mpr (show nI i ≤ (25 : Int32) from nI_le (b := 25) (by omega) (by omega))), isWordG (show i < 26 by omega), if_neg (hno i h2 (by omega)), lt1_v, if_pos rfl, lt1_v, nI_1]
      exact ih (i + 1) m (by omega) (by omega)
  refine ⟨26 - w, ?_⟩
  have e := key (w - 17) 17 (26 - w + 1) (by omega) (by omega)
  rw [show 26 - w + 1 + (w - 17) = 10 from by omega] at e
  exact e
theorem sl_1 {n lm o : Nat} {to fr kd' nm' sg ft pl td : Int32} {wd : Int64} {G now : Nat → Int32} {M : Nat → Int64} (op : Int32) {w : Nat} (hw : 17 ≤ w) (hw' : w ≤ 26) (hno : ∀ q, 17 ≤ q → q < w → ¬ (kd' = 2 ∧ wd = wv q)) : ∃ m : Nat, y_X12_readSaid_1_10 (nI n) (nI lm) to fr kd' nm' sg ft pl wd td (nI o) G now M 10 op 17 = y_X12_readSaid_1_10 (nI n) (nI lm) to fr kd' nm' sg ft pl wd td (nI o) G now M (m + 1) op (nI w) := by
  have key : ∀ (u i m : Nat), i + u = w → 17 ≤ i → y_X12_readSaid_1_10 (nI n) (nI lm) to fr kd' nm' sg ft pl wd td (nI o) G now M (m + u) op (nI i) = y_X12_readSaid_1_10 (nI n) (nI lm) to fr kd' nm' sg ft pl wd td (nI o) G now M m op (nI w) := by
    intro u
    induction u with
    | zero =>
      intro i m h1 h2
      have e : i = w := by omega
      rw [e, Nat.add_zero]
    | succ u ih =>
      intro i m h1 h2
      rw [← Nat.add_assoc, y_X12_readSaid_1_10_s, if_neg (nlt.mpr (show nI i ≤ (25 : Int32) from nI_le (b := 25) (by omega) (by omega))), isWordG (show i < 26 by omega), if_neg (hno i h2 (by omega)), lt1_v, if_pos rfl, lt1_v, nI_1]
      exact ih (i + 1) m (by omega) (by omega)
  refine ⟨26 - w, ?_⟩
  have e := key (w - 17) 17 (26 - w + 1) (by omega) (by omega)
  rw [show 26 - w + 1 + (w - 17) = 10 from by omega] at e
  exact e
theorem sl_0 {n lm o : Nat} {to fr kd' nm' sg ft pl td : Int32} {wd : Int64} {G now : Nat → Int32} {M : Nat → Int64} (op : Int32) {w : Nat} (hw : 17 ≤ w) (hw' : w ≤ 26) (hno : ∀ q, 17 ≤ q → q < w → ¬ (kd' = 2 ∧ wd = wv q)) : ∃ m : Nat, y_X12_readSaid_0_10 (nI n) (nI lm) to fr kd' nm' sg ft pl wd td (nI o) G now M 10 op 17 = y_X12_readSaid_0_10 (nI n) (nI lm) to fr kd' nm' sg ft pl wd td (nI o) G now M (m + 1) op (nI w) := by
  have key : ∀ (u i m : Nat), i + u = w → 17 ≤ i → y_X12_readSaid_0_10 (nI n) (nI lm) to fr kd' nm' sg ft pl wd td (nI o) G now M (m + u) op (nI i) = y_X12_readSaid_0_10 (nI n) (nI lm) to fr kd' nm' sg ft pl wd td (nI o) G now M m op (nI w) := by
    intro u
    induction u with
    | zero =>
      intro i m h1 h2
      have e : i = w := by omega
      rw [e, Nat.add_zero]
    | succ u ih =>
      intro i m h1 h2
      rw [← Nat.add_assoc, y_X12_readSaid_0_10_s, if_neg (nlt.mpr (show nI i ≤ (25 : Int32) from nI_le (b := 25) (by omega) (by omega))), isWordG (show i < 26 by omega), if_neg (hno i h2 (by omega)), lt1_v, if_pos rfl, lt1_v, nI_1]
      exact ih (i + 1) m (by omega) (by omega)
  refine ⟨26 - w, ?_⟩
  have e := key (w - 17) 17 (26 - w + 1) (by omega) (by omega)
  rw [show 26 - w + 1 + (w - 17) = 10 from by omega] at e
  exact e
theorem nine_one {n p o : Nat} {lt : Int64} {bh av kd nm to fr kd' nm' sg : Int32} {wd : Int64} (fa : Int32) (h : TR n p lt bh av kd nm to fr kd' nm' sg wd) : ∃ g : Int32, ¬ g = 0 ∧ y_X8_readOne_9 (nI o) 0 fa lt av kd = (g, fr, 0, 0) ∧ y_X12_readSaid_8 kd' sg wd (nI o) = (0, g) := by
  have e0 := h.1
  rcases h.signs 40 sgn40 with ⟨c1, c2, c3, -⟩ | ⟨c1, c2⟩
  · have nw : ∀ q : Nat, ¬ (kd' = 2 ∧ wd = wv q) := fun q z => absurd (c2.symm.trans z.1) (by decide)
    have hp : y_X8_plainWord lt kd = none := plain_none h.kr (fun k _ _ => nw k)
    have z17 : y_X6_sees lt kd 17 = 0 := by rw [sees_w h.kr (by decide), if_neg (nw 17)]
    have z40 : y_X6_seesSign 40 kd = 1 := by rw [y_X6_seesSign_s, if_pos c1]
    have o40 : y_X12_isSign 40 kd' sg = 1 := by rw [isSign_w, if_pos ⟨c2, c3⟩]
    have nk1 : ¬ kd' = 1 := by rw [c2]; decide
    obtain ⟨m, em⟩ := sl_8 (o := o) (kd' := kd') (wd := wd) 1 (w := 26) (by decide) (by decide) (fun q _ _ => nw q)
    exact ⟨4, by decide, by rw [y_X8_readOne_9_s, lo_n hp, z17, lt1_v, if_pos rfl, z40, lt1_v, if_neg oz, fail0, lt4_t, ite_self, e0], by rw [y_X12_readSaid_8_s, o40, lt1_v, if_neg oz, em, y_X12_readSaid_8_10_s, if_pos (show (25 : Int32) < nI 26 from by decide), if_neg oz, bad_v, if_neg nk1, lt2_t, ite_self]⟩
  · have z40 : y_X6_seesSign 40 kd = 0 := by rw [y_X6_seesSign_s, if_neg c1]
    have o40 : y_X12_isSign 40 kd' sg = 0 := by rw [isSign_w, if_neg c2]
    by_cases cw : ∃ w, 17 ≤ w ∧ w < 26 ∧ kd' = 2 ∧ wd = wv w
    · obtain ⟨w, hw1, hw2, c⟩ := cw
      have nk1 : ¬ kd' = 1 := by rw [c.1]; decide
      obtain ⟨m, em⟩ := sl_8 (o := o) (kd' := kd') (wd := wd) 0 (w := w) hw1 (by omega) (fun q a b z => absurd (wv_inj q (by omega) w hw2 (z.2.symm.trans c.2)) (by omega))
      refine ⟨4, by decide, ?_, by rw [y_X12_readSaid_8_s, o40, lt1_v, if_pos rfl, em, y_X12_readSaid_8_10_s, if_neg (nlt.mpr (show nI w ≤ (25 : Int32) from nI_le (b := 25) (by omega) (by omega))), isWordG hw2, if_pos c, lt1_v, if_neg oz, if_pos rfl, bad_v, if_neg nk1, lt2_t, ite_self]⟩
      by_cases h17 : w = 17
      · subst h17
        have hp : y_X8_plainWord lt kd = none := plain_none h.kr (fun k a b z => absurd (wv_inj k b 17 (by decide) (z.2.symm.trans c.2)) (by omega))
        have z17 : y_X6_sees lt kd 17 = 1 := by rw [sees_w h.kr (by decide), if_pos c]
        rw [y_X8_readOne_9_s, lo_n hp, z17, lt1_v, if_neg oz, fail0, lt4_t, ite_self, e0]
      · rw [y_X8_readOne_9_s, lo_s (plain_some h.kr (by omega) hw2 c), fail0, lt4_t, ite_self, e0]
    · have hp : y_X8_plainWord lt kd = none := plain_none h.kr (fun k a b z => cw ⟨k, by omega, b, z⟩)
      have z17 : y_X6_sees lt kd 17 = 0 := by rw [sees_w h.kr (by decide), if_neg (fun z => cw ⟨17, by decide, by decide, z⟩)]
      obtain ⟨m, em⟩ := sl_8 (o := o) (kd' := kd') (wd := wd) 0 (w := 26) (by decide) (by decide) (fun q a b z => cw ⟨q, a, b, z⟩)
      exact ⟨1, by decide, by rw [y_X8_readOne_9_s, lo_n hp, z17, lt1_v, if_pos rfl, z40, lt1_v, if_pos rfl, fail0, lt4_t, e0], by rw [y_X12_readSaid_8_s, o40, lt1_v, if_pos rfl, em, y_X12_readSaid_8_10_s, if_pos (show (25 : Int32) < nI 26 from by decide), if_pos rfl, bad_v, ite_self, lt2_t]⟩
theorem tbr (k : Nat) : y_X6_takeIf_br 0 0 k = 0 := by rw [y_X6_takeIf_br_s, sees_v, if_neg (fun z => absurd z.1 (by decide)), lt1_v, if_pos rfl]
theorem nine {n p o : Nat} {lt : Int64} {bh av kd nm to fr kd' nm' sg : Int32} {wd : Int64} (fa : Int32) (h : TR n p lt bh av kd nm to fr kd' nm' sg wd) : ∃ g : Int32, ¬ g = 0 ∧ y_X8_readOne_9 (nI o) 0 fa lt av kd = (g, fr, 0, 0) ∧ y_X8_readCond_9 (nI o) 0 fa lt av kd = (g, fr, 0, 0) ∧ y_X12_readNot_8 kd' sg wd (nI o) = (0, g) ∧ y_X12_readBracket_8 kd' sg wd (nI o) = (0, g) := by
  obtain ⟨g, hg, e1, e2⟩ := nine_one (o := o) fa h
  have ea : y_X8_readAll_9 (nI o) 0 fa lt av kd = (g, fr, 0, 0) := by rw [y_X8_readAll_9_s, e1, lt4_t, y_X8_readAll_9_8_s, if_neg (show ¬ (20 : Int32) ≤ 0 by decide), tbr, lt1_v, if_pos rfl]
  exact ⟨g, hg, e1, by rw [y_X8_readCond_9_s, ea, lt4_t, y_X8_readCond_9_8_s, if_neg (show ¬ (20 : Int32) ≤ 0 by decide), tbr, lt1_v, if_pos rfl], by rw [y_X12_readNot_8_s, e2, lt2_t], by rw [y_X12_readBracket_8_s, y_X12_readOr_8_s, y_X12_readAnd_8_s, e2, lt2_t, lt2_t, lt2_t]⟩
