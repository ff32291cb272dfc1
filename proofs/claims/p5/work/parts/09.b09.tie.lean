/-! what the law needs of the tape -/
theorem agr_0 {F G : Nat → Int32} : agr 0 F G := fun j hj => absurd hj (by rw [show (0 : Int32).toInt = 0 from by decide]; omega)
theorem agr_tr {L0 L : Int32} {F0 G0 F G : Nat → Int32} (h : agr L0 F0 G0) (hF : eqs 0 940 F F0) (hG : eqs 0 940 G G0) (hl : L.toInt ≤ L0.toInt) (hr : rg 0 940 L0) : agr L F G := fun j hj => by
  have h2 := hr.2
  exact (hF j (Nat.zero_le _) (by omega)).trans ((h j (by omega)).trans (hG j (Nat.zero_le _) (by omega)).symm)
theorem rg_nI {L : Int32} (hr : rg 0 940 L) : ∃ n : Nat, n ≤ 940 ∧ L = nI n := by
  have h1 := hr.1
  have h2 := hr.2
  refine ⟨L.toInt.toNat, by omega, Int32.toInt_inj.mp ?_⟩
  rw [nI_toInt (by omega)]; omega
theorem agr_nI {n : Nat} (hn : n ≤ 940) {F G : Nat → Int32} (h : agr (nI n) F G) : ∀ j, j < n → F j = G j := fun j hj => h j (by rw [nI_toInt (by omega)]; omega)
theorem agr_of {n : Nat} (hn : n ≤ 940) {F G : Nat → Int32} (h : ∀ j, j < n → F j = G j) : agr (nI n) F G := fun j hj => h j (by rw [nI_toInt (by omega)] at hj; omega)
theorem feed_tie {L : Int32} {F G : Nat → Int32} (hr : rg 0 940 L) (ha : agr L F G) {a1 a2 a3 a4 a5 r1 r2 u v : Int32} {F1 G1 : Nat → Int32} (h1 : (r1, u, F1) = y_X11_feed a1 a2 a3 a4 a5 L F) (h2 : (r2, v, G1) = y_X12_feed a1 a2 a3 a4 a5 L G) : v = u ∧ agr v F1 G1 := by
  obtain ⟨n, hn, rfl⟩ := rg_nI hr
  obtain ⟨r, l1, F2, G2, hl1, e1, e2, e3⟩ := feed_agr hn (agr_nI hn ha) a1 a2 a3 a4 a5
  rw [e1] at h1
  rw [e2] at h2
  obtain ⟨-, rfl, rfl⟩ := Prod.mk.inj h1 |>.imp id Prod.mk.inj
  obtain ⟨-, rfl, rfl⟩ := Prod.mk.inj h2 |>.imp id Prod.mk.inj
  exact ⟨rfl, agr_of hl1 e3⟩
theorem court_tie {L : Int32} {F G : Nat → Int32} (hr : rg 0 940 L) (ha : agr L F G) {now rd on pi le hd tu du cf tn lp ll lh ltu ldu lcf ltn K1 D1 N' : Nat → Int32} {nam N1 N2 N3 M L1 L2 L3 A1 A2 A3 A' : Nat → Int64} {lt wd : Int64} {av kd nm nm' sg pl td lj lf lc lo ld r1 r2 g1 g2 j1 f1 c1 a1 b1 : Int32} (h1 : (r1, g1, j1, f1, c1, a1, b1, A1, A2, A3, K1, D1) = y_X11_court tn L lt av kd nm F N1 N2 N3 cf tu du pi le hd lj lf lc lo ld L1 L2 L3 lp ll lh ltu ldu lcf ltn) (h2 : (r2, g2, N', A') = y_X12_court L nm' sg pl wd td G rd on M now nam) : r1 = r2 ∧ (tieL 0 lj lf lc lo ld ll ldu now → tieL 0 j1 f1 c1 a1 b1 K1 D1 N') ∧ (tieN 0 lj lf lc L1 L2 L3 nam → tieN 0 j1 f1 c1 A1 A2 A3 A') ∧ g1 = g2 := by
  obtain ⟨n, hn, rfl⟩ := rg_nI hr
  obtain ⟨r, k, j, f, c, a, b, B1, B2, B3, K, D, N, A, e1, e2, e3, e4⟩ := court_eq hn (agr_nI hn ha) now nam lt wd av kd nm nm' sg pl td lj lf lc lo ld N1 N2 N3 M L1 L2 L3 pi le hd tu du cf tn rd on lp ll lh ltu ldu lcf ltn
  rw [e1] at h1
  rw [e2] at h2
  simp only [Prod.mk.injEq] at h1 h2
  obtain ⟨q1, q0, q2, q3, q4, q5, q6, q11, q12, q13, q7, q8⟩ := h1
  obtain ⟨q9, q15, q10, q14⟩ := h2
  refine ⟨q1.trans q9.symm, fun t => ?_, fun t => ?_, q0.trans q15.symm⟩
  · rw [q2, q3, q4, q5, q6, q7, q8, q10]
    exact e3 t
  · rw [q2, q3, q4, q11, q12, q13, q14]
    exact e4 t
