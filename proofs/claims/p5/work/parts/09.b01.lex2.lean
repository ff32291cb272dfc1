/-! one run of letters and digits, in both -/
theorem nI_sub {a b : Nat} (h : b ≤ a) (ha : a ≤ 940) : nI a - nI b = nI (a - b) := by
  have h1 : (nI a).toInt = (a : Int) := nI_toInt (by omega)
  have h2 : (nI b).toInt = (b : Int) := nI_toInt (by omega)
  have e := tsub (x := nI a) (y := nI b) (a := 0) (b := 940) (d := 0) (f := 940) ⟨by omega, by omega⟩ ⟨by omega, by omega⟩ (by decide) (by decide)
  have h3 : (nI (a - b)).toInt = ((a - b : Nat) : Int) := nI_toInt (by omega)
  exact Int32.toInt_inj.mp (by omega)
theorem nI_inj {a b : Nat} (ha : a < 2 ^ 31) (hb : b < 2 ^ 31) (h : nI a = nI b) : a = b := (nI_eq ha hb).mp h
theorem tapeAt_v {n r : Nat} {G : Nat → Int32} (hn : n ≤ 940) (h : r < n) : y_X12_tapeAt (nI r) (nI n) G = G r := by
  rw [y_X12_tapeAt_s, if_neg (nI_ge h (by omega))]
  simp only [lt1, nI_clamp (show r < 2 ^ 31 by omega)]
theorem tapeAt_z {n r : Nat} {G : Nat → Int32} (hn : r ≤ 940) (h : n ≤ r) : y_X12_tapeAt (nI r) (nI n) G = 0 := by
  rw [y_X12_tapeAt_s, if_pos (nI_le h (by omega))]
theorem isL_nD {x : Int32} (h : isL x) : ¬ x < 48 ∧ (57 : Int32) < x := by
  obtain ⟨a, b⟩ := isL_rg h
  rw [Int32.lt_iff_toInt_lt, Int32.lt_iff_toInt_lt]
  have z1 : (48 : Int32).toInt = 48 := by decide
  have z2 : (57 : Int32).toInt = 57 := by decide
  exact ⟨by omega, by omega⟩
theorem isD_nL {x : Int32} (h : isD x) : x < 97 := by
  obtain ⟨a, b⟩ := isD_rg h
  rw [Int32.lt_iff_toInt_lt]
  have z1 : (97 : Int32).toInt = 97 := by decide
  omega
theorem classL {n k r : Nat} {F : Nat → Int32} {sm dg nm : Int32} {L : Int64} (hn : n ≤ 940) (h : r < n) (hx : isL (F r)) : y_X6_readRun_9 (nI n) F (k + 1) sm dg L (nI r) nm = y_X6_readRun_9 (nI n) F k (sm + 1) dg (L * 32 + ((F r - 97) + 1).toInt64) (nI (r + 1)) nm := by
  rw [y_X6_readRun_9_s, if_neg (nI_ge h (by omega))]
  simp only [lt1, nI_clamp (show r < 2 ^ 31 by omega), nI_1, if_neg hx.1, if_neg hx.2]
theorem classD {n k r : Nat} {F : Nat → Int32} {sm dg nm : Int32} {L : Int64} (hn : n ≤ 940) (h : r < n) (hx : isD (F r)) : y_X6_readRun_9 (nI n) F (k + 1) sm dg L (nI r) nm = y_X6_readRun_9 (nI n) F k sm (dg + 1) L (nI (r + 1)) (nm * 10 + (F r - 48)) := by
  rw [y_X6_readRun_9_s, if_neg (nI_ge h (by omega))]
  simp only [lt1, nI_clamp (show r < 2 ^ 31 by omega), nI_1, if_pos (isD_nL hx), if_neg hx.1, if_neg hx.2]
theorem classE {n k r : Nat} {F : Nat → Int32} {sm dg nm : Int32} {L : Int64} (hn : n ≤ 940) (hr : r ≤ n) (h : r < n → ¬ isL (F r) ∧ ¬ isD (F r)) : y_X6_readRun_9 (nI n) F (k + 1) sm dg L (nI r) nm = y_X6_readRun_112 sm dg L (nI r) nm := by
  rw [y_X6_readRun_9_s]
  by_cases c : n ≤ r
  · rw [if_pos (nI_le c (by omega))]
  · rw [if_neg (nI_ge (by omega) (by omega))]
    obtain ⟨a, b⟩ := h (by omega)
    simp only [lt1, nI_clamp (show r < 2 ^ 31 by omega), nI_1]
    by_cases c1 : F r < 97
    · rw [if_pos c1]
      by_cases c2 : F r < 48
      · rw [if_pos c2]
      · rw [if_neg c2]
        by_cases c3 : (57 : Int32) < F r
        · rw [if_pos c3]
        · exact absurd ⟨c2, c3⟩ b
    · rw [if_neg c1]
      by_cases c2 : (122 : Int32) < F r
      · rw [if_pos c2]
      · exact absurd ⟨c1, c2⟩ a
theorem le7 {a : Nat} (h : a ≤ 940) : ((7 : Int32) ≤ nI a) ↔ 7 ≤ a := nI_leI (a := 7) (b := a) (by omega) (by omega)
theorem le3 {a : Nat} (h : a ≤ 940) : ((3 : Int32) ≤ nI a) ↔ 3 ≤ a := nI_leI (a := 3) (b := a) (by omega) (by omega)
theorem refL {n k r q : Nat} {G : Nat → Int32} {sg fl gd nr : Int32} {W : Int64} (hn : n ≤ 940) (h : r < n) (hq : q ≤ r) (hx : isL (G r)) (hf : fl = 0 ∨ fl = 1) : y_X12_go_215 (nI n) sg G (k + 1) fl gd (nI r) (nI q) nr W = y_X12_go_215 (nI n) sg G k fl (if gd = 0 then 0 else if fl = 0 then 0 else 1) (nI (r + 1)) (nI q) (if 3 ≤ r - q then nr else 10 * nr + G r - 48) (if 7 ≤ r - q then W else 27 * W + (G r).toInt64 - 96) := by
  have hs : nI r - nI q = nI (r - q) := nI_sub hq (by omega)
  rw [y_X12_go_215_s]
  simp only [lt1, tapeAt_v hn h, if_neg (nI_ge h (show n < 2 ^ 31 by omega)), if_neg hx.1, if_neg hx.2, nI_1, hs, le7 (show r - q ≤ 940 by omega), le3 (show r - q ≤ 940 by omega)]
  by_cases g : gd = 0 <;> by_cases a : 7 ≤ r - q <;> by_cases b : 3 ≤ r - q <;> rcases hf with f | f <;> subst f <;> simp [g, a, b]
theorem refD {n k r q : Nat} {G : Nat → Int32} {sg fl gd nr : Int32} {W : Int64} (hn : n ≤ 940) (h : r < n) (hq : q ≤ r) (hx : isD (G r)) (hf : fl = 0 ∨ fl = 1) : y_X12_go_215 (nI n) sg G (k + 1) fl gd (nI r) (nI q) nr W = y_X12_go_215 (nI n) sg G k fl (if gd = 0 then 0 else if fl = 0 then 1 else 0) (nI (r + 1)) (nI q) (if 3 ≤ r - q then nr else 10 * nr + G r - 48) (if 7 ≤ r - q then W else 27 * W + (G r).toInt64 - 96) := by
  have hs : nI r - nI q = nI (r - q) := nI_sub hq (by omega)
  rw [y_X12_go_215_s]
  simp only [lt1, tapeAt_v hn h, if_neg (nI_ge h (show n < 2 ^ 31 by omega)), if_pos (isD_nL hx), if_neg hx.1, if_neg hx.2, nI_1, hs, le7 (show r - q ≤ 940 by omega), le3 (show r - q ≤ 940 by omega)]
  by_cases g : gd = 0 <;> by_cases a : 7 ≤ r - q <;> by_cases b : 3 ≤ r - q <;> rcases hf with f | f <;> subst f <;> simp [g, a, b]
theorem refE {n k r q : Nat} {G : Nat → Int32} {sg fl gd nr : Int32} {W : Int64} (hn : n ≤ 940) (hr : r ≤ n) (hq : q ≤ r) (h : r < n → ¬ isL (G r) ∧ ¬ isD (G r)) : y_X12_go_215 (nI n) sg G (k + 1) fl gd (nI r) (nI q) nr W = if gd = 0 then y_X12_go_377 sg (nI r) (nI q) nr W else if fl = 0 then y_X12_go_374 sg fl 3 (nI (r - q)) (nI r) (nI q) nr W else y_X12_go_374 sg fl 7 (nI (r - q)) (nI r) (nI q) nr W := by
  have hs : nI r - nI q = nI (r - q) := nI_sub hq (by omega)
  rw [y_X12_go_215_s]
  by_cases c : n ≤ r
  · simp only [lt1, tapeAt_z (show r ≤ 940 by omega) c, if_pos (nI_le c (show r < 2 ^ 31 by omega)), if_pos (show (0 : Int32) < 97 by decide), if_pos (show (0 : Int32) < 48 by decide), hs]
  · have h1 : r < n := by omega
    obtain ⟨a, b⟩ := h h1
    simp only [lt1, tapeAt_v hn h1, if_neg (nI_ge h1 (show n < 2 ^ 31 by omega)), hs]
    by_cases c1 : G r < 97
    · simp only [if_pos c1]
      by_cases c2 : G r < 48
      · simp only [if_pos c2]
      · simp only [if_neg c2]
        by_cases c3 : (57 : Int32) < G r
        · simp only [if_pos c3]
        · exact absurd ⟨c2, c3⟩ b
    · simp only [if_neg c1]
      by_cases c2 : (122 : Int32) < G r
      · have c4 : ¬ G r < 48 := fun z => c1 (by rw [Int32.lt_iff_toInt_lt] at z ⊢; have z1 : (48 : Int32).toInt = 48 := (by decide); have z2 : (97 : Int32).toInt = 97 := (by decide); omega)
        have c5 : (57 : Int32) < G r := by rw [Int32.lt_iff_toInt_lt] at c2 ⊢; have z1 : (57 : Int32).toInt = 57 := (by decide); have z2 : (122 : Int32).toInt = 122 := (by decide); omega
        simp only [if_pos c2, if_neg c4, if_pos c5]
      · exact absurd ⟨c1, c2⟩ a
def RR (n q : Nat) (c : Int64 × Int32 × Int32 × Int32) (t : Int32 × Int32 × Int32 × Int32 × Int32 × Int64) : Prop := ∃ r : Nat, q < r ∧ r ≤ n ∧ c.2.1 = nI r ∧ t.1 = nI r ∧ t.2.1 = nI q ∧ ((c.2.2.1 = 2 ∧ t.2.2.1 = 2 ∧ wr c.1 t.2.2.2.2.2) ∨ (c.2.2.1 = 3 ∧ t.2.2.1 = 3 ∧ c.1 = 0 ∧ c.2.2.2 = t.2.2.2.1) ∨ (c.2.2.1 = 0 ∧ t.2.2.1 = 1 ∧ c.1 = 0))
def inv (l : List Int32) (sm dg : Int32) (L : Int64) (nm fl gd : Int32) (W : Int64) (nr : Int32) : Prop :=
  l ≠ [] ∧ (((∀ x ∈ l, isL x) ∧ sm = nI l.length ∧ dg = 0 ∧ fl = 1 ∧ gd = 1 ∧ (l.length ≤ 7 → L = encL l ∧ W = encW l)) ∨ ((∀ x ∈ l, isD x) ∧ sm = 0 ∧ dg = nI l.length ∧ fl = 0 ∧ gd = 1 ∧ (l.length ≤ 3 → nm = nr)) ∨ ((∃ a b : Nat, 1 ≤ a ∧ 1 ≤ b ∧ a + b = l.length ∧ sm = nI a ∧ dg = nI b) ∧ gd = 0 ∧ (fl = 0 ∨ fl = 1)))
theorem inv_fl {l : List Int32} {sm dg : Int32} {L : Int64} {nm fl gd : Int32} {W : Int64} {nr : Int32} (h : inv l sm dg L nm fl gd W nr) : fl = 0 ∨ fl = 1 := by
  obtain ⟨-, ⟨-, -, -, h, -⟩ | ⟨-, -, -, h, -⟩ | ⟨-, -, h⟩⟩ := h
  · exact Or.inr h
  · exact Or.inl h
  · exact h
theorem inv_L {l : List Int32} {x : Int32} {sm dg : Int32} {L : Int64} {nm fl gd : Int32} {W : Int64} {nr : Int32} (hx : isL x) (h : inv l sm dg L nm fl gd W nr) : inv (x :: l) (sm + 1) dg (L * 32 + ((x - 97) + 1).toInt64) nm fl (if gd = 0 then 0 else if fl = 0 then 0 else 1) (if 7 ≤ l.length then W else 27 * W + x.toInt64 - 96) (if 3 ≤ l.length then nr else 10 * nr + x - 48) := by
  obtain ⟨h0, ⟨h1, rfl, rfl, rfl, rfl, h2⟩ | ⟨h1, rfl, rfl, rfl, rfl, h2⟩ | ⟨⟨a, b, h1, h2, h3, rfl, rfl⟩, rfl, h4⟩⟩ := h
  · refine ⟨by simp, Or.inl ⟨fun y hy => ?_, nI_1 _, rfl, rfl, by simp, fun z => ?_⟩⟩
    · rcases List.mem_cons.mp hy with e | e
      · rw [e]; exact hx
      · exact h1 y e
    · have z' : l.length ≤ 6 := by simp at z; omega
      obtain ⟨e1, e2⟩ := h2 (by omega)
      rw [if_neg (by omega), e1, e2]
      exact ⟨rfl, rfl⟩
  · refine ⟨by simp, Or.inr (Or.inr ⟨⟨1, l.length, by omega, ?_, by simp; omega, by decide, rfl⟩, by simp, Or.inl rfl⟩)⟩
    have := List.length_pos_iff.mpr h0
    omega
  · exact ⟨by simp, Or.inr (Or.inr ⟨⟨a + 1, b, by omega, h2, by simp; omega, nI_1 _, rfl⟩, by simp, h4⟩)⟩
theorem n10 (a x : Int32) : a * 10 + (x - 48) = 10 * a + x - 48 := by
  rw [Int32.mul_comm, Int32.sub_eq_add_neg, Int32.sub_eq_add_neg, Int32.add_assoc]
theorem inv_D {l : List Int32} {x : Int32} {sm dg : Int32} {L : Int64} {nm fl gd : Int32} {W : Int64} {nr : Int32} (hx : isD x) (h : inv l sm dg L nm fl gd W nr) : inv (x :: l) sm (dg + 1) L (nm * 10 + (x - 48)) fl (if gd = 0 then 0 else if fl = 0 then 1 else 0) (if 7 ≤ l.length then W else 27 * W + x.toInt64 - 96) (if 3 ≤ l.length then nr else 10 * nr + x - 48) := by
  obtain ⟨h0, ⟨h1, rfl, rfl, rfl, rfl, h2⟩ | ⟨h1, rfl, rfl, rfl, rfl, h2⟩ | ⟨⟨a, b, h1, h2, h3, rfl, rfl⟩, rfl, h4⟩⟩ := h
  · refine ⟨by simp, Or.inr (Or.inr ⟨⟨l.length, 1, ?_, by omega, by simp, rfl, by decide⟩, by simp, Or.inr rfl⟩)⟩
    have := List.length_pos_iff.mpr h0
    omega
  · refine ⟨by simp, Or.inr (Or.inl ⟨fun y hy => ?_, rfl, nI_1 _, rfl, by simp, fun z => ?_⟩)⟩
    · rcases List.mem_cons.mp hy with e | e
      · rw [e]; exact hx
      · exact h1 y e
    · have z' : l.length ≤ 2 := by simp at z; omega
      rw [if_neg (by omega), h2 (by omega)]
      exact n10 _ _
  · exact ⟨by simp, Or.inr (Or.inr ⟨⟨a, b + 1, h1, by omega, by simp; omega, rfl, nI_1 _⟩, by simp, h4⟩)⟩
theorem nz {a : Nat} (h : 1 ≤ a) (h' : a ≤ 940) : ¬ nI a = 0 := fun e => absurd (nI_inj (b := 0) (by omega) (by omega) e) (by omega)
theorem inv_E {n q r : Nat} {l : List Int32} {sg sm dg : Int32} {L : Int64} {nm fl gd : Int32} {W : Int64} {nr : Int32} (hn : n ≤ 940) (hr : r ≤ n) (hq : q + l.length = r) (h : inv l sm dg L nm fl gd W nr) : RR n q (y_X6_readRun_112 sm dg L (nI r) nm) (if gd = 0 then y_X12_go_377 sg (nI r) (nI q) nr W else if fl = 0 then y_X12_go_374 sg fl 3 (nI (r - q)) (nI r) (nI q) nr W else y_X12_go_374 sg fl 7 (nI (r - q)) (nI r) (nI q) nr W) := by
  have e : r - q = l.length := by omega
  obtain ⟨h0, h⟩ := h
  have hl := List.length_pos_iff.mpr h0
  rw [e]
  have l7 : (nI l.length ≤ (7 : Int32)) ↔ l.length ≤ 7 := nI_leI (a := l.length) (b := 7) (by omega) (by omega)
  have l3 : (nI l.length ≤ (3 : Int32)) ↔ l.length ≤ 3 := nI_leI (a := l.length) (b := 3) (by omega) (by omega)
  have g7 : ((7 : Int32) < nI l.length) ↔ 7 < l.length := by
    rw [Int32.lt_iff_toInt_lt, nI_toInt (by omega), show (7 : Int32).toInt = 7 from by decide]; omega
  have g3 : ((3 : Int32) < nI l.length) ↔ 3 < l.length := by
    rw [Int32.lt_iff_toInt_lt, nI_toInt (by omega), show (3 : Int32).toInt = 3 from by decide]; omega
  rcases h with ⟨h1, rfl, rfl, rfl, rfl, h2⟩ | ⟨h1, rfl, rfl, rfl, rfl, h2⟩ | ⟨⟨a, b, h1, h2, h3, rfl, rfl⟩, rfl, h4⟩
  · rw [if_neg (by decide), if_neg (by decide), y_X12_go_374_s, y_X6_readRun_112_s, if_pos rfl]
    by_cases c : l.length ≤ 7
    · rw [if_neg (fun z => absurd (g7.mp z) (by omega)), if_pos (l7.mpr c), if_neg (by decide), y_X6_readRun_152_s, if_pos rfl]
      obtain ⟨e1, e2⟩ := h2 c
      exact ⟨r, by omega, hr, rfl, rfl, rfl, Or.inl ⟨rfl, rfl, l, ⟨h0, c, h1⟩, e1, e2⟩⟩
    · rw [if_pos (g7.mpr (by omega)), if_neg (fun z => c (l7.mp z)), y_X6_readRun_130_s, if_neg (nz (by omega) (by omega)), y_X6_readRun_147_s, y_X6_readRun_152_s, if_neg (by decide)]
      exact ⟨r, by omega, hr, rfl, rfl, rfl, Or.inr (Or.inr ⟨rfl, rfl, rfl⟩)⟩
  · rw [if_neg (by decide), if_pos rfl, y_X12_go_374_s, y_X6_readRun_112_s, if_neg (nz (by omega) (by omega)), y_X6_readRun_130_s, if_pos rfl]
    by_cases c : l.length ≤ 3
    · rw [if_neg (fun z => absurd (g3.mp z) (by omega)), if_pos (l3.mpr c), if_pos rfl, y_X6_readRun_152_s, if_neg (by decide)]
      exact ⟨r, by omega, hr, rfl, rfl, rfl, Or.inr (Or.inl ⟨rfl, rfl, rfl, h2 c⟩)⟩
    · rw [if_pos (g3.mpr (by omega)), if_neg (fun z => c (l3.mp z)), y_X6_readRun_147_s, y_X6_readRun_152_s, if_neg (by decide)]
      exact ⟨r, by omega, hr, rfl, rfl, rfl, Or.inr (Or.inr ⟨rfl, rfl, rfl⟩)⟩
  · rw [if_pos rfl, y_X6_readRun_112_s, if_neg (nz h2 (by omega)), y_X6_readRun_130_s, if_neg (nz h1 (by omega)), y_X6_readRun_147_s, y_X6_readRun_152_s, if_neg (by decide)]
    exact ⟨r, by omega, hr, rfl, rfl, rfl, Or.inr (Or.inr ⟨rfl, rfl, rfl⟩)⟩
theorem run2 {n q : Nat} {F G : Nat → Int32} {sg : Int32} (hn : n ≤ 940) (ha : ∀ j, j < n → F j = G j) : ∀ (d r : Nat) (l : List Int32) (sm dg : Int32) (L : Int64) (nm fl gd : Int32) (W : Int64) (nr : Int32) (kC kR : Nat), r + d = n → q + l.length = r → inv l sm dg L nm fl gd W nr → d ≤ kC → d ≤ kR → RR n q (y_X6_readRun_9 (nI n) F (kC + 1) sm dg L (nI r) nm) (y_X12_go_215 (nI n) sg G (kR + 1) fl gd (nI r) (nI q) nr W) := by
  intro d
  induction d with
  | zero =>
    intro r l sm dg L nm fl gd W nr kC kR h1 h2 h3 h4 h5
    rw [classE hn (by omega) (fun z => absurd z (by omega)), refE hn (by omega) (by omega) (fun z => absurd z (by omega))]
    exact inv_E hn (by omega) h2 h3
  | succ d ih =>
    intro r l sm dg L nm fl gd W nr kC kR h1 h2 h3 h4 h5
    have hf := ha r (by omega)
    have e : r - q = l.length := by omega
    obtain ⟨kC, rfl⟩ : ∃ k, kC = k + 1 := ⟨kC - 1, by omega⟩
    obtain ⟨kR, rfl⟩ : ∃ k, kR = k + 1 := ⟨kR - 1, by omega⟩
    by_cases c1 : isL (F r)
    · rw [classL hn (by omega) c1, refL hn (by omega) (by omega) (hf ▸ c1) (inv_fl h3), ← hf, e]
      exact ih (r + 1) (F r :: l) _ _ _ _ _ _ _ _ kC kR (by omega) (by simp; omega) (inv_L c1 h3) (by omega) (by omega)
    · by_cases c2 : isD (F r)
      · rw [classD hn (by omega) c2, refD hn (by omega) (by omega) (hf ▸ c2) (inv_fl h3), ← hf, e]
        exact ih (r + 1) (F r :: l) _ _ _ _ _ _ _ _ kC kR (by omega) (by simp; omega) (inv_D c2 h3) (by omega) (by omega)
      · rw [classE hn (by omega) (fun _ => ⟨c1, c2⟩), refE hn (by omega) (by omega) (fun _ => ⟨hf ▸ c1, hf ▸ c2⟩)]
        exact inv_E hn (by omega) h2 h3
