/-! SENTENCE, as the law sees it -/
theorem sentence_tie {L : Int32} {F G : Nat → Int32} (hr : rg 0 940 L) (ha : agr L F G) {lj lf lc lo ld r1 r2 g1 g2 : Int32} (hj : rg 0 10 lj) (hf : rg 0 4 lf) {N1 N2 N3 nam : Nat → Int64} {Le Du now : Nat → Int32} (T : tieL 0 lj lf lc lo ld Le Du now) (TN : tieN 0 lj lf lc N1 N2 N3 nam) {lt wd : Int64} {av kd nm nm' sg pl td : Int32} (h1 : (r1, g1) = y_X11_sentence L lt av kd nm F lj lf N2 N1) (h2 : (r2, g2) = y_X12_sentence L nm' sg pl wd td G now nam) : r1 = r2 ∧ g1 = g2 := by
  obtain ⟨n, hn, rfl⟩ := rg_nI hr
  obtain ⟨t0, t1, -, -, -, -, -⟩ := T
  obtain ⟨u1, u2, -⟩ := TN
  have p1 := hj.1
  have p2 := hj.2
  have p3 := hf.1
  have p4 := hf.2
  obtain ⟨j, ej⟩ : ∃ n : Nat, lj.toInt = (n : Int) := ⟨lj.toInt.toNat, by omega⟩
  obtain ⟨f, ef⟩ : ∃ n : Nat, lf.toInt = (n : Int) := ⟨lf.toInt.toNat, by omega⟩
  have e1 : lj = nI j := Int32.toInt_inj.mp (by rw [nI_toInt (by omega)]; exact ej)
  have e2 : lf = nI f := Int32.toInt_inj.mp (by rw [nI_toInt (by omega)]; exact ef)
  have q : (r1, g1) = (r2, g2) := by
    rw [h1, h2, e1, e2]
    refine sent_eq hn (agr_nI hn ha) (show j ≤ 10 by omega) (show f ≤ 4 by omega) (fun k hk => u1 k (by omega) (by omega)) (fun k hk => ?_) (t0.symm.trans e1) (t1.symm.trans e2) lt wd av kd nm nm' sg pl td
    have z := u2 k (by omega) (by omega)
    rw [Nat.zero_add] at z
    exact z
  exact Prod.mk.inj q
