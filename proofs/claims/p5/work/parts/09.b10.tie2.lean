/-! the law's numbers and rows, and those of the reference's rows now and kept -/
theorem tieL_mv {o : Nat} {j f c a b : Int32} {L D N N' : Nat → Int32} (h : tieL o j f c a b L D N) (e : ∀ k, o ≤ k → k < o + 44 → N' k = N k) : tieL o j f c a b L D N' := by
  obtain ⟨h0, h1, h2, h3, h4, h5, h6⟩ := h
  exact ⟨h0.trans (e _ (by omega) (by omega)).symm, h1.trans (e _ (by omega) (by omega)).symm, h2.trans (e _ (by omega) (by omega)).symm, h3.trans (e _ (by omega) (by omega)).symm, h4.trans (e _ (by omega) (by omega)).symm, fun k hk hk' => (h5 k hk hk').trans (e _ (by omega) (by omega)).symm, fun k hk hk' => (h6 k hk hk').trans (e _ (by omega) (by omega)).symm⟩
theorem tie_tr {x y : Nat} {j f c a b : Int32} {L D N0 N : Nat → Int32} (h : tieL 0 j f c a b L D N0) (e : eqs x y N N0) (hx : x ≤ 0) (hy : 44 ≤ y) : tieL 0 j f c a b L D N :=
  tieL_mv h (fun k _ hk => e k (by omega) (by omega))
theorem tieL_cp {o o' : Nat} {j f c a b : Int32} {L D L' D' N N' : Nat → Int32} (h : tieL o j f c a b L D N) (e : ∀ k, k < 376 → N' (o' + k) = N (o + k)) (eL : ∀ k, k < 10 → L' k = L k) (eD : ∀ k, k < 4 → D' k = D k) : tieL o' j f c a b L' D' N' := by
  obtain ⟨h0, h1, h2, h3, h4, h5, h6⟩ := h
  refine ⟨h0.trans (e 0 (by omega)).symm, h1.trans (e 1 (by omega)).symm, h2.trans (e 2 (by omega)).symm, h3.trans (e 3 (by omega)).symm, h4.trans (e 4 (by omega)).symm, fun k hk hk' => ?_, fun k hk hk' => ?_⟩
  · have z := e (15 + k) (by omega)
    rw [← Nat.add_assoc, ← Nat.add_assoc] at z
    exact (eL k hk).trans ((h5 k hk hk').trans z.symm)
  · have z := e (40 + k) (by omega)
    rw [← Nat.add_assoc, ← Nat.add_assoc] at z
    exact (eD k hk).trans ((h6 k hk hk').trans z.symm)
def tieK (k : Nat) (fi j f c a b : Int32) (L D K I : Nat → Int32) : Prop := (fi = 0 ↔ I k = 0) ∧ (I k = 0 ∨ tieL (376 * k) j f c a b L D K)
theorem tieK_z {k : Nat} {j f c a b : Int32} {L D K : Nat → Int32} : tieK k 0 j f c a b L D K (fun _ => 0) := ⟨⟨fun _ => rfl, fun _ => rfl⟩, Or.inl rfl⟩
theorem rg_eq {c : Int} {x y : Int32} (h : rg c c x) (hy : y.toInt = c) : y = x := Int32.toInt_inj.mp (by have p := h.1; have q := h.2; omega)
theorem tie_z {L D N : Nat → Int32} (h0 : sg 0 3 0 0 N) (h3 : sg 3 4 3 3 N) (h4 : sg 4 5 1 1 N) : tieL 0 0 0 0 3 1 L D N := by
  have z : (0 : Int32).toInt = 0 := by decide
  exact ⟨rg_eq (h0 0 (by omega) (by omega)) z, rg_eq (h0 1 (by omega) (by omega)) z, rg_eq (h0 2 (by omega) (by omega)) z, rg_eq (h3 3 (by omega) (by omega)) (by decide), rg_eq (h4 4 (by omega) (by omega)) (by decide), fun k hk hk' => absurd hk' (by omega), fun k hk hk' => absurd hk' (by omega)⟩
theorem cpx_sg {i : Int32} {G S : Nat → Int32} {a b : Nat} {lo hi : Int} (h : cpx 0 0 i G S) (h9 : 89 ≤ i.toInt) (hs : sg a b lo hi S) (hb : b ≤ 89) : sg a b lo hi G := fun j p q => by
  have z := h j (by omega)
  rw [Nat.zero_add] at z
  rw [z]; exact hs j p q
theorem srd_z {a b u v : Nat → Int32} (h : (u, v) = y_X12_startRead a b) : sg 0 3 0 0 u ∧ sg 3 4 3 3 u ∧ sg 4 5 1 1 u := by
  obtain ⟨rd0, on0, e1, o0, o1, a0, a1, a2, a3, a4, a35, at'⟩ := startRead_v a b
  rw [e1] at h
  obtain ⟨e, -⟩ := Prod.mk.inj h
  rw [e]
  refine ⟨fun j p q => ?_, fun j p q => ?_, fun j p q => ?_⟩
  · have z : j = 0 ∨ j = 1 ∨ j = 2 := by omega
    rcases z with z | z | z
    · rw [z, a0]; exact ⟨by decide, by decide⟩
    · rw [z, a1]; exact ⟨by decide, by decide⟩
    · rw [z, a2]; exact ⟨by decide, by decide⟩
  · have z : j = 3 := by omega
    rw [z, a3]; exact ⟨by decide, by decide⟩
  · have z : j = 4 := by omega
    rw [z, a4]; exact ⟨by decide, by decide⟩
theorem nar1 : ¬ (vp_nar .boolean 1) = 0 := by decide +kernel
theorem isIn_0 : y_X12_isIn 0 0 1 = 1 := by decide +kernel
theorem isIn_1 : y_X12_isIn 1 0 1 = 1 := by decide +kernel
theorem tieN_mv {o : Nat} {j f c : Int32} {N1 N2 N3 M M' : Nat → Int64} (h : tieN o j f c N1 N2 N3 M) (e : ∀ k, o ≤ k → k < o + 19 → M' k = M k) : tieN o j f c N1 N2 N3 M' := by
  obtain ⟨h1, h2, h3⟩ := h
  exact ⟨fun k hk hk' => by rw [e _ (by omega) (by omega)]; exact h1 k hk hk', fun k hk hk' => by rw [e _ (by omega) (by omega)]; exact h2 k hk hk', fun k hk hk' => by rw [e _ (by omega) (by omega)]; exact h3 k hk hk'⟩
theorem tieN_cp {o o' : Nat} {j f c : Int32} {N1 N2 N3 A1 A2 A3 M M' : Nat → Int64} (h : tieN o j f c N1 N2 N3 M) (e : ∀ k, k < 19 → M' (o' + k) = M (o + k)) (e1 : ∀ k, k < 10 → A1 k = N1 k) (e2 : ∀ k, k < 4 → A2 k = N2 k) (e3 : ∀ k, k < 5 → A3 k = N3 k) : tieN o' j f c A1 A2 A3 M' := by
  obtain ⟨h1, h2, h3⟩ := h
  refine ⟨fun k hk hk' => ?_, fun k hk hk' => ?_, fun k hk hk' => ?_⟩
  · rw [e1 k hk, e k (by omega)]; exact h1 k hk hk'
  · have z := e (10 + k) (by omega)
    rw [← Nat.add_assoc, ← Nat.add_assoc] at z
    rw [e2 k hk, z]; exact h2 k hk hk'
  · have z := e (14 + k) (by omega)
    rw [← Nat.add_assoc, ← Nat.add_assoc] at z
    rw [e3 k hk, z]; exact h3 k hk hk'
theorem tieN_z {o : Nat} {N1 N2 N3 M : Nat → Int64} : tieN o 0 0 0 N1 N2 N3 M := by
  have z : (0 : Int32).toInt = 0 := by decide
  exact ⟨fun k hk hk' => absurd hk' (by omega), fun k hk hk' => absurd hk' (by omega), fun k hk hk' => absurd hk' (by omega)⟩
def tieM (k : Nat) (j f c : Int32) (N1 N2 N3 K : Nat → Int64) (I : Nat → Int32) : Prop := I k = 0 ∨ tieN (19 * k) j f c N1 N2 N3 K
theorem tieM_z {k : Nat} {j f c : Int32} {N1 N2 N3 K : Nat → Int64} : tieM k j f c N1 N2 N3 K (fun _ => 0) := Or.inl rfl
theorem im51_0 (nam : Nat → Int64) (ik : Nat → Int32) (kn : Nat → Int64) : ∀ (u i m : Nat) (f : Nat → Int32) (fn : Nat → Int64), i + u = 19 → u < m → (∀ j, j < i → fn (0 + j) = nam j) → (∀ j, j < 0 ∨ 0 + 19 ≤ j → fn j = kn j) → ∃ KN : Nat → Int64, y_X12_image_0_51 nam ik m (nI i) f fn = (1, f, KN, (upd ik (0 : Int32).toNatClampNeg (vp_nar .boolean 1))) ∧ (∀ j, j < 19 → KN (0 + j) = nam j) ∧ (∀ j, j < 0 ∨ 0 + 19 ≤ j → KN j = kn j) := by
  intro u
  induction u with
  | zero =>
    intro i m f fn h1 h2 h3 h4
    obtain ⟨m, rfl⟩ : ∃ z, m = z + 1 := ⟨m - 1, by omega⟩
    refine ⟨fn, ?_, fun j hj => h3 j (by omega), h4⟩
    rw [y_X12_image_0_51_s, if_pos (show (19 : Int32) ≤ nI i from nI_le (a := 19) (by omega) (by omega)), lt1_v]
  | succ u ih =>
    intro i m f fn h1 h2 h3 h4
    obtain ⟨m, rfl⟩ : ∃ z, m = z + 1 := ⟨m - 1, by omega⟩
    rw [y_X12_image_0_51_s, if_neg (show ¬ (19 : Int32) ≤ nI i from nI_ge (b := 19) (by omega) (by omega)), lt1_v, lt1_v, lt1_v, lt1_v, show (0 : Int32) + nI i = nI (0 + i) from nI_add 0 i, nI_clamp (show 0 + i < 2 ^ 31 by omega), nI_clamp (show i < 2 ^ 31 by omega), nI_1]
    refine ih (i + 1) m _ _ (by omega) (by omega) (fun j hj => ?_) (fun j hj => ?_)
    · by_cases e : j = i
      · subst e; rw [updL_s]
      · rw [updL_n (by omega)]; exact h3 j (by omega)
    · rw [updL_n (by omega)]; exact h4 j hj
theorem im18_0 (now : Nat → Int32) (nam kn : Nat → Int64) (ik kept : Nat → Int32) : ∀ (u i m : Nat) (f : Nat → Int32), i + u = 376 → u < m → (∀ j, j < i → f (0 + j) = now j) → (∀ j, j < 0 ∨ 0 + 376 ≤ j → f j = kept j) → ∃ (K : Nat → Int32) (KN : Nat → Int64), y_X12_image_0_18 now nam kn ik m (nI i) f = (1, K, KN, (upd ik (0 : Int32).toNatClampNeg (vp_nar .boolean 1))) ∧ (∀ j, j < 376 → K (0 + j) = now j) ∧ (∀ j, j < 0 ∨ 0 + 376 ≤ j → K j = kept j) ∧ (∀ j, j < 19 → KN (0 + j) = nam j) ∧ (∀ j, j < 0 ∨ 0 + 19 ≤ j → KN j = kn j) := by
  intro u
  induction u with
  | zero =>
    intro i m f h1 h2 h3 h4
    obtain ⟨m, rfl⟩ : ∃ z, m = z + 1 := ⟨m - 1, by omega⟩
    obtain ⟨KN, e1, e2, e3⟩ := im51_0 nam ik kn 19 0 20 f kn (by omega) (by omega) (fun j hj => absurd hj (by omega)) (fun j _ => rfl)
    refine ⟨f, KN, ?_, fun j hj => h3 j (by omega), h4, e2, e3⟩
    rw [y_X12_image_0_18_s, if_pos (show (376 : Int32) ≤ nI i from nI_le (a := 376) (by omega) (by omega))]
    exact e1
  | succ u ih =>
    intro i m f h1 h2 h3 h4
    obtain ⟨m, rfl⟩ : ∃ z, m = z + 1 := ⟨m - 1, by omega⟩
    rw [y_X12_image_0_18_s, if_neg (show ¬ (376 : Int32) ≤ nI i from nI_ge (b := 376) (by omega) (by omega)), lt1_v, lt1_v, lt1_v, lt1_v, show (0 : Int32) + nI i = nI (0 + i) from nI_add 0 i, nI_clamp (show 0 + i < 2 ^ 31 by omega), nI_clamp (show i < 2 ^ 31 by omega), nI_1]
    refine ih (i + 1) m _ (by omega) (by omega) (fun j hj => ?_) (fun j hj => ?_)
    · by_cases e : j = i
      · subst e; rw [updI_s]
      · rw [updI_n (by omega)]; exact h3 j (by omega)
    · rw [updI_n (by omega)]; exact h4 j hj
theorem image12_0 (kept now : Nat → Int32) (nam kn : Nat → Int64) (ik : Nat → Int32) : ∃ (K : Nat → Int32) (KN : Nat → Int64), y_X12_image_0 kept now nam kn ik = (1, K, KN, (upd ik (0 : Int32).toNatClampNeg (vp_nar .boolean 1))) ∧ (∀ j, j < 376 → K (0 + j) = now j) ∧ (∀ j, j < 0 ∨ 0 + 376 ≤ j → K j = kept j) ∧ (∀ j, j < 19 → KN (0 + j) = nam j) ∧ (∀ j, j < 0 ∨ 0 + 19 ≤ j → KN j = kn j) := by
  obtain ⟨K, KN, e, h1, h2, h3, h4⟩ := im18_0 now nam kn ik kept 376 0 377 kept (by omega) (by omega) (fun j hj => absurd hj (by omega)) (fun j _ => rfl)
  refine ⟨K, KN, ?_, h1, h2, h3, h4⟩
  rw [y_X12_image_0_s, isIn_0, lt1_v, if_neg oz]; exact e
theorem image11_0 {n1 m1 n2 m2 n3 m3 : Nat → Int64} {p p' L L0 h h' t t' D D0 c c0 z z' : Nat → Int32} : y_X11_image_0 n1 m1 n2 m2 n3 m3 p p' L L0 h h' t t' D D0 c c0 z z' = (1, va_cpy n1 m1 (0 : Int32).toNatClampNeg (0 : Int32).toNatClampNeg (10 : Int32).toNatClampNeg, va_cpy n2 m2 (0 : Int32).toNatClampNeg (0 : Int32).toNatClampNeg (4 : Int32).toNatClampNeg, va_cpy n3 m3 (0 : Int32).toNatClampNeg (0 : Int32).toNatClampNeg (5 : Int32).toNatClampNeg, va_cpy L L0 (0 : Int32).toNatClampNeg (0 : Int32).toNatClampNeg (10 : Int32).toNatClampNeg, va_cpy D D0 (0 : Int32).toNatClampNeg (0 : Int32).toNatClampNeg (4 : Int32).toNatClampNeg) := by rw [y_X11_image_0_s]; rfl
theorem image_tie_0 {lj lf lc lo ld fi j' f' c' a' b' r1 r2 : Int32} {n1 m1 n2 m2 n3 m3 nam kn A1 A2 A3 KN' : Nat → Int64} {p p' L L0 h h' t t' D D0 c c0 z z' L' D' L2 D2 kept now ik K' I' : Nat → Int32} (T : tieL 0 lj lf lc lo ld L D now) (T1 : tieK 1 fi j' f' c' a' b' L2 D2 kept ik) (h1 : (r1, A1, A2, A3, L', D') = y_X11_image_0 n1 m1 n2 m2 n3 m3 p p' L L0 h h' t t' D D0 c c0 z z') (h2 : (r2, K', KN', I') = y_X12_image_0 kept now nam kn ik) : tieK 0 1 lj lf lc lo ld L' D' K' I' ∧ tieK 1 fi j' f' c' a' b' L2 D2 K' I' := by
  obtain ⟨K, KN, e, k1, k2, -, -⟩ := image12_0 kept now nam kn ik
  rw [image11_0] at h1
  rw [e] at h2
  simp only [Prod.mk.injEq] at h1 h2
  obtain ⟨-, -, -, -, q2, q3⟩ := h1
  obtain ⟨-, q4, -, q5⟩ := h2
  have zk : (0 : Int32).toNatClampNeg = 0 := by decide
  rw [zk] at q5
  rw [q2, q3, q4, q5]
  refine ⟨⟨⟨fun w => absurd w oz, fun w => absurd w (by rw [updI_s]; exact nar1)⟩, Or.inr (tieL_cp T (fun k hk => ?_) (fun k hk => cpy10 hk) (fun k hk => cpy4 hk))⟩, ?_⟩
  · rw [Nat.zero_add]; exact (congrArg K (by omega)).trans (k1 k hk)
  · obtain ⟨u1, u2⟩ := T1
    refine ⟨?_, ?_⟩
    · rw [updI_n (by decide)]; exact u1
    · rw [updI_n (by decide)]
      rcases u2 with u2 | u2
      · exact Or.inl u2
      · exact Or.inr (tieL_mv u2 (fun k p1 p2 => k2 k (by omega)))
theorem image_tn_0 {lj lf lc j' f' c' r1 r2 : Int32} {n1 m1 n2 m2 n3 m3 nam kn A1 A2 A3 KN' E1 E2 E3 : Nat → Int64} {p p' L L0 h h' t t' D D0 c c0 z z' L' D' kept now ik K' I' : Nat → Int32} (T : tieN 0 lj lf lc n1 n2 n3 nam) (T1 : tieM 1 j' f' c' E1 E2 E3 kn ik) (h1 : (r1, A1, A2, A3, L', D') = y_X11_image_0 n1 m1 n2 m2 n3 m3 p p' L L0 h h' t t' D D0 c c0 z z') (h2 : (r2, K', KN', I') = y_X12_image_0 kept now nam kn ik) : tieM 0 lj lf lc A1 A2 A3 KN' I' ∧ tieM 1 j' f' c' E1 E2 E3 KN' I' := by
  obtain ⟨K, KN, e, -, -, k1, k2⟩ := image12_0 kept now nam kn ik
  rw [image11_0] at h1
  rw [e] at h2
  simp only [Prod.mk.injEq] at h1 h2
  obtain ⟨-, q1, q2, q3, -, -⟩ := h1
  obtain ⟨-, -, q4, q5⟩ := h2
  have zk : (0 : Int32).toNatClampNeg = 0 := by decide
  rw [zk] at q5
  rw [q1, q2, q3, q4, q5]
  refine ⟨Or.inr (tieN_cp T (fun k hk => ?_) (fun k hk => cpy10 hk) (fun k hk => cpy4 hk) (fun k hk => cpy5 hk)), ?_⟩
  · rw [Nat.zero_add]; exact (congrArg KN (by omega)).trans (k1 k hk)
  · unfold tieM
    rw [updI_n (by decide)]
    rcases T1 with u2 | u2
    · exact Or.inl u2
    · exact Or.inr (tieN_mv u2 (fun k p1 p2 => k2 k (by omega)))
theorem rs60_0 (kn : Nat → Int64) : ∀ (u i m : Nat) (f : Nat → Int32) (fn : Nat → Int64), i + u = 19 → u < m → (∀ j, j < i → fn j = kn (0 + j)) → ∃ A : Nat → Int64, y_X12_restore_0_60 kn m (nI i) f fn = (1, f, A) ∧ ∀ j, j < 19 → A j = kn (0 + j) := by
  intro u
  induction u with
  | zero =>
    intro i m f fn h1 h2 h3
    obtain ⟨m, rfl⟩ : ∃ z, m = z + 1 := ⟨m - 1, by omega⟩
    refine ⟨fn, ?_, fun j hj => h3 j (by omega)⟩
    rw [y_X12_restore_0_60_s, if_pos (show (19 : Int32) ≤ nI i from nI_le (a := 19) (by omega) (by omega))]
  | succ u ih =>
    intro i m f fn h1 h2 h3
    obtain ⟨m, rfl⟩ : ∃ z, m = z + 1 := ⟨m - 1, by omega⟩
    rw [y_X12_restore_0_60_s, if_neg (show ¬ (19 : Int32) ≤ nI i from nI_ge (b := 19) (by omega) (by omega)), lt1_v, lt1_v, lt1_v, lt1_v, show (0 : Int32) + nI i = nI (0 + i) from nI_add 0 i, nI_clamp (show 0 + i < 2 ^ 31 by omega), nI_clamp (show i < 2 ^ 31 by omega), nI_1]
    refine ih (i + 1) m _ _ (by omega) (by omega) (fun j hj => ?_)
    by_cases e : j = i
    · subst e; rw [updL_s]
    · rw [updL_n e]; exact h3 j (by omega)
theorem rs27_0 (kept : Nat → Int32) (kn nam : Nat → Int64) : ∀ (u i m : Nat) (f : Nat → Int32), i + u = 376 → u < m → (∀ j, j < i → f j = kept (0 + j)) → ∃ (N : Nat → Int32) (A : Nat → Int64), y_X12_restore_0_27 kept kn nam m (nI i) f = (1, N, A) ∧ (∀ j, j < 376 → N j = kept (0 + j)) ∧ ∀ j, j < 19 → A j = kn (0 + j) := by
  intro u
  induction u with
  | zero =>
    intro i m f h1 h2 h3
    obtain ⟨m, rfl⟩ : ∃ z, m = z + 1 := ⟨m - 1, by omega⟩
    obtain ⟨A, e1, e2⟩ := rs60_0 kn 19 0 20 f nam (by omega) (by omega) (fun j hj => absurd hj (by omega))
    refine ⟨f, A, ?_, fun j hj => h3 j (by omega), e2⟩
    rw [y_X12_restore_0_27_s, if_pos (show (376 : Int32) ≤ nI i from nI_le (a := 376) (by omega) (by omega))]
    exact e1
  | succ u ih =>
    intro i m f h1 h2 h3
    obtain ⟨m, rfl⟩ : ∃ z, m = z + 1 := ⟨m - 1, by omega⟩
    rw [y_X12_restore_0_27_s, if_neg (show ¬ (376 : Int32) ≤ nI i from nI_ge (b := 376) (by omega) (by omega)), lt1_v, lt1_v, lt1_v, lt1_v, show (0 : Int32) + nI i = nI (0 + i) from nI_add 0 i, nI_clamp (show 0 + i < 2 ^ 31 by omega), nI_clamp (show i < 2 ^ 31 by omega), nI_1]
    refine ih (i + 1) m _ (by omega) (by omega) (fun j hj => ?_)
    by_cases e : j = i
    · subst e; rw [updI_s]
    · rw [updI_n e]; exact h3 j (by omega)
theorem restore_both_0 {fi lj lf lc lo ld ij if_ ic io id_ r1 r2 j1 f1 c1 a1 b1 : Int32} {n1 m1 n2 m2 n3 m3 nam kn A1 A2 A3 A' : Nat → Int64} {p p' IL L h h' t t' ID D c c0 z z' L1 D1 now K I N' : Nat → Int32} (k0 : fi = 0 ↔ I 0 = 0) (h1 : (r1, j1, f1, c1, a1, b1, A1, A2, A3, L1, D1) = y_X11_restore_0 fi lj lf lc lo ld ij if_ ic io id_ n1 m1 n2 m2 n3 m3 p p' IL L h h' t t' ID D c c0 z z') (h2 : (r2, N', A') = y_X12_restore_0 I now K kn nam) :
    (I 0 = 0 ∧ j1 = lj ∧ f1 = lf ∧ c1 = lc ∧ a1 = lo ∧ b1 = ld ∧ A1 = m1 ∧ A2 = m2 ∧ A3 = m3 ∧ L1 = L ∧ D1 = D ∧ N' = now ∧ A' = nam) ∨
    (¬ I 0 = 0 ∧ j1 = ij ∧ f1 = if_ ∧ c1 = ic ∧ a1 = io ∧ b1 = id_ ∧ (∀ k, k < 10 → A1 k = n1 k) ∧ (∀ k, k < 4 → A2 k = n2 k) ∧ (∀ k, k < 5 → A3 k = n3 k) ∧ (∀ k, k < 10 → L1 k = IL k) ∧ (∀ k, k < 4 → D1 k = ID k) ∧ (∀ k, k < 376 → N' k = K (0 + k)) ∧ ∀ k, k < 19 → A' k = kn (0 + k)) := by
  have zk : (0 : Int32).toNatClampNeg = 0 := by decide
  rw [y_X12_restore_0_s, isIn_0, lt1_v, if_neg oz, lt1_v, zk] at h2
  by_cases w : fi = 0
  · have e1 : y_X11_restore_0 fi lj lf lc lo ld ij if_ ic io id_ n1 m1 n2 m2 n3 m3 p p' IL L h h' t t' ID D c c0 z z' = (0, lj, lf, lc, lo, ld, m1, m2, m3, L, D) := by rw [y_X11_restore_0_s, if_pos w]
    rw [e1] at h1
    rw [if_pos (k0.mp w)] at h2
    simp only [Prod.mk.injEq] at h1 h2
    obtain ⟨-, q2, q3, q4, q5, q6, q7, q8, q9, q10, q11⟩ := h1
    exact Or.inl ⟨k0.mp w, q2, q3, q4, q5, q6, q7, q8, q9, q10, q11, h2.2.1, h2.2.2⟩
  · have wi : ¬ I 0 = 0 := fun y => w (k0.mpr y)
    have e1 : y_X11_restore_0 fi lj lf lc lo ld ij if_ ic io id_ n1 m1 n2 m2 n3 m3 p p' IL L h h' t t' ID D c c0 z z' = (1, ij, if_, ic, io, id_, va_cpy n1 m1 (0 : Int32).toNatClampNeg (0 : Int32).toNatClampNeg (10 : Int32).toNatClampNeg, va_cpy n2 m2 (0 : Int32).toNatClampNeg (0 : Int32).toNatClampNeg (4 : Int32).toNatClampNeg, va_cpy n3 m3 (0 : Int32).toNatClampNeg (0 : Int32).toNatClampNeg (5 : Int32).toNatClampNeg, va_cpy IL L (0 : Int32).toNatClampNeg (0 : Int32).toNatClampNeg (10 : Int32).toNatClampNeg, va_cpy ID D (0 : Int32).toNatClampNeg (0 : Int32).toNatClampNeg (4 : Int32).toNatClampNeg) := by rw [y_X11_restore_0_s, if_neg w]; rfl
    obtain ⟨N, A, e2, e3, e4⟩ := rs27_0 K kn nam 376 0 377 now (by omega) (by omega) (fun j hj => absurd hj (by omega))
    rw [e1] at h1
    rw [if_neg wi, show y_X12_restore_0_27 K kn nam 377 0 now = (1, N, A) from e2] at h2
    simp only [Prod.mk.injEq] at h1 h2
    obtain ⟨-, q2, q3, q4, q5, q6, q7, q8, q9, q10, q11⟩ := h1
    exact Or.inr ⟨wi, q2, q3, q4, q5, q6, fun k hk => by rw [q7]; exact cpy10 hk, fun k hk => by rw [q8]; exact cpy4 hk, fun k hk => by rw [q9]; exact cpy5 hk, fun k hk => by rw [q10]; exact cpy10 hk, fun k hk => by rw [q11]; exact cpy4 hk, fun k hk => by rw [h2.2.1]; exact e3 k hk, fun k hk => by rw [h2.2.2]; exact e4 k hk⟩
theorem restore_tie_0 {fi lj lf lc lo ld ij if_ ic io id_ r1 r2 j1 f1 c1 a1 b1 : Int32} {n1 m1 n2 m2 n3 m3 nam kn A1 A2 A3 A' : Nat → Int64} {p p' IL L h h' t t' ID D c c0 z z' L1 D1 now K I N' : Nat → Int32} (T : tieL 0 lj lf lc lo ld L D now) (TK : tieK 0 fi ij if_ ic io id_ IL ID K I) (h1 : (r1, j1, f1, c1, a1, b1, A1, A2, A3, L1, D1) = y_X11_restore_0 fi lj lf lc lo ld ij if_ ic io id_ n1 m1 n2 m2 n3 m3 p p' IL L h h' t t' ID D c c0 z z') (h2 : (r2, N', A') = y_X12_restore_0 I now K kn nam) : tieL 0 j1 f1 c1 a1 b1 L1 D1 N' := by
  rcases restore_both_0 TK.1 h1 h2 with ⟨-, q2, q3, q4, q5, q6, -, -, -, q10, q11, q12, -⟩ | ⟨wi, q2, q3, q4, q5, q6, -, -, -, q10, q11, q12, -⟩
  · rw [q2, q3, q4, q5, q6, q10, q11, q12]; exact T
  · rw [q2, q3, q4, q5, q6]
    rcases TK.2 with k1 | k1
    · exact absurd k1 wi
    · refine tieL_cp k1 (fun k hk => ?_) q10 q11
      rw [Nat.zero_add]; exact (q12 k hk).trans (congrArg K (by omega))
theorem restore_tn_0 {fi lj lf lc lo ld ij if_ ic io id_ r1 r2 j1 f1 c1 a1 b1 : Int32} {n1 m1 n2 m2 n3 m3 nam kn A1 A2 A3 A' : Nat → Int64} {p p' IL L h h' t t' ID D c c0 z z' L1 D1 now K I N' : Nat → Int32} (T : tieN 0 lj lf lc m1 m2 m3 nam) (k0 : fi = 0 ↔ I 0 = 0) (TM : tieM 0 ij if_ ic n1 n2 n3 kn I) (h1 : (r1, j1, f1, c1, a1, b1, A1, A2, A3, L1, D1) = y_X11_restore_0 fi lj lf lc lo ld ij if_ ic io id_ n1 m1 n2 m2 n3 m3 p p' IL L h h' t t' ID D c c0 z z') (h2 : (r2, N', A') = y_X12_restore_0 I now K kn nam) : tieN 0 j1 f1 c1 A1 A2 A3 A' := by
  rcases restore_both_0 k0 h1 h2 with ⟨-, q2, q3, q4, -, -, q7, q8, q9, -, -, -, q13⟩ | ⟨wi, q2, q3, q4, -, -, q7, q8, q9, -, -, -, q13⟩
  · rw [q2, q3, q4, q7, q8, q9, q13]; exact T
  · rw [q2, q3, q4]
    rcases TM with k1 | k1
    · exact absurd k1 wi
    · refine tieN_cp k1 (fun k hk => ?_) q7 q8 q9
      rw [Nat.zero_add]; exact (q13 k hk).trans (congrArg kn (by omega))
theorem im51_1 (nam : Nat → Int64) (ik : Nat → Int32) (kn : Nat → Int64) : ∀ (u i m : Nat) (f : Nat → Int32) (fn : Nat → Int64), i + u = 19 → u < m → (∀ j, j < i → fn (19 + j) = nam j) → (∀ j, j < 19 ∨ 19 + 19 ≤ j → fn j = kn j) → ∃ KN : Nat → Int64, y_X12_image_1_51 nam ik m (nI i) f fn = (1, f, KN, (upd ik (1 : Int32).toNatClampNeg (vp_nar .boolean 1))) ∧ (∀ j, j < 19 → KN (19 + j) = nam j) ∧ (∀ j, j < 19 ∨ 19 + 19 ≤ j → KN j = kn j) := by
  intro u
  induction u with
  | zero =>
    intro i m f fn h1 h2 h3 h4
    obtain ⟨m, rfl⟩ : ∃ z, m = z + 1 := ⟨m - 1, by omega⟩
    refine ⟨fn, ?_, fun j hj => h3 j (by omega), h4⟩
    rw [y_X12_image_1_51_s, if_pos (show (19 : Int32) ≤ nI i from nI_le (a := 19) (by omega) (by omega)), lt1_v]
  | succ u ih =>
    intro i m f fn h1 h2 h3 h4
    obtain ⟨m, rfl⟩ : ∃ z, m = z + 1 := ⟨m - 1, by omega⟩
    rw [y_X12_image_1_51_s, if_neg (show ¬ (19 : Int32) ≤ nI i from nI_ge (b := 19) (by omega) (by omega)), lt1_v, lt1_v, lt1_v, lt1_v, show (19 : Int32) + nI i = nI (19 + i) from nI_add 19 i, nI_clamp (show 19 + i < 2 ^ 31 by omega), nI_clamp (show i < 2 ^ 31 by omega), nI_1]
    refine ih (i + 1) m _ _ (by omega) (by omega) (fun j hj => ?_) (fun j hj => ?_)
    · by_cases e : j = i
      · subst e; rw [updL_s]
      · rw [updL_n (by omega)]; exact h3 j (by omega)
    · rw [updL_n (by omega)]; exact h4 j hj
theorem im18_1 (now : Nat → Int32) (nam kn : Nat → Int64) (ik kept : Nat → Int32) : ∀ (u i m : Nat) (f : Nat → Int32), i + u = 376 → u < m → (∀ j, j < i → f (376 + j) = now j) → (∀ j, j < 376 ∨ 376 + 376 ≤ j → f j = kept j) → ∃ (K : Nat → Int32) (KN : Nat → Int64), y_X12_image_1_18 now nam kn ik m (nI i) f = (1, K, KN, (upd ik (1 : Int32).toNatClampNeg (vp_nar .boolean 1))) ∧ (∀ j, j < 376 → K (376 + j) = now j) ∧ (∀ j, j < 376 ∨ 376 + 376 ≤ j → K j = kept j) ∧ (∀ j, j < 19 → KN (19 + j) = nam j) ∧ (∀ j, j < 19 ∨ 19 + 19 ≤ j → KN j = kn j) := by
  intro u
  induction u with
  | zero =>
    intro i m f h1 h2 h3 h4
    obtain ⟨m, rfl⟩ : ∃ z, m = z + 1 := ⟨m - 1, by omega⟩
    obtain ⟨KN, e1, e2, e3⟩ := im51_1 nam ik kn 19 0 20 f kn (by omega) (by omega) (fun j hj => absurd hj (by omega)) (fun j _ => rfl)
    refine ⟨f, KN, ?_, fun j hj => h3 j (by omega), h4, e2, e3⟩
    rw [y_X12_image_1_18_s, if_pos (show (376 : Int32) ≤ nI i from nI_le (a := 376) (by omega) (by omega))]
    exact e1
  | succ u ih =>
    intro i m f h1 h2 h3 h4
    obtain ⟨m, rfl⟩ : ∃ z, m = z + 1 := ⟨m - 1, by omega⟩
    rw [y_X12_image_1_18_s, if_neg (show ¬ (376 : Int32) ≤ nI i from nI_ge (b := 376) (by omega) (by omega)), lt1_v, lt1_v, lt1_v, lt1_v, show (376 : Int32) + nI i = nI (376 + i) from nI_add 376 i, nI_clamp (show 376 + i < 2 ^ 31 by omega), nI_clamp (show i < 2 ^ 31 by omega), nI_1]
    refine ih (i + 1) m _ (by omega) (by omega) (fun j hj => ?_) (fun j hj => ?_)
    · by_cases e : j = i
      · subst e; rw [updI_s]
      · rw [updI_n (by omega)]; exact h3 j (by omega)
    · rw [updI_n (by omega)]; exact h4 j hj
theorem image12_1 (kept now : Nat → Int32) (nam kn : Nat → Int64) (ik : Nat → Int32) : ∃ (K : Nat → Int32) (KN : Nat → Int64), y_X12_image_1 kept now nam kn ik = (1, K, KN, (upd ik (1 : Int32).toNatClampNeg (vp_nar .boolean 1))) ∧ (∀ j, j < 376 → K (376 + j) = now j) ∧ (∀ j, j < 376 ∨ 376 + 376 ≤ j → K j = kept j) ∧ (∀ j, j < 19 → KN (19 + j) = nam j) ∧ (∀ j, j < 19 ∨ 19 + 19 ≤ j → KN j = kn j) := by
  obtain ⟨K, KN, e, h1, h2, h3, h4⟩ := im18_1 now nam kn ik kept 376 0 377 kept (by omega) (by omega) (fun j hj => absurd hj (by omega)) (fun j _ => rfl)
  refine ⟨K, KN, ?_, h1, h2, h3, h4⟩
  rw [y_X12_image_1_s, isIn_1, lt1_v, if_neg oz]; exact e
theorem image11_1 {n1 m1 n2 m2 n3 m3 : Nat → Int64} {p p' L L0 h h' t t' D D0 c c0 z z' : Nat → Int32} : y_X11_image_1 n1 m1 n2 m2 n3 m3 p p' L L0 h h' t t' D D0 c c0 z z' = (1, va_cpy n1 m1 (0 : Int32).toNatClampNeg (0 : Int32).toNatClampNeg (10 : Int32).toNatClampNeg, va_cpy n2 m2 (0 : Int32).toNatClampNeg (0 : Int32).toNatClampNeg (4 : Int32).toNatClampNeg, va_cpy n3 m3 (0 : Int32).toNatClampNeg (0 : Int32).toNatClampNeg (5 : Int32).toNatClampNeg, va_cpy L L0 (0 : Int32).toNatClampNeg (0 : Int32).toNatClampNeg (10 : Int32).toNatClampNeg, va_cpy D D0 (0 : Int32).toNatClampNeg (0 : Int32).toNatClampNeg (4 : Int32).toNatClampNeg) := by rw [y_X11_image_1_s]; rfl
theorem image_tie_1 {lj lf lc lo ld fi j' f' c' a' b' r1 r2 : Int32} {n1 m1 n2 m2 n3 m3 nam kn A1 A2 A3 KN' : Nat → Int64} {p p' L L0 h h' t t' D D0 c c0 z z' L' D' L2 D2 kept now ik K' I' : Nat → Int32} (T : tieL 0 lj lf lc lo ld L D now) (T1 : tieK 0 fi j' f' c' a' b' L2 D2 kept ik) (h1 : (r1, A1, A2, A3, L', D') = y_X11_image_1 n1 m1 n2 m2 n3 m3 p p' L L0 h h' t t' D D0 c c0 z z') (h2 : (r2, K', KN', I') = y_X12_image_1 kept now nam kn ik) : tieK 1 1 lj lf lc lo ld L' D' K' I' ∧ tieK 0 fi j' f' c' a' b' L2 D2 K' I' := by
  obtain ⟨K, KN, e, k1, k2, -, -⟩ := image12_1 kept now nam kn ik
  rw [image11_1] at h1
  rw [e] at h2
  simp only [Prod.mk.injEq] at h1 h2
  obtain ⟨-, -, -, -, q2, q3⟩ := h1
  obtain ⟨-, q4, -, q5⟩ := h2
  have zk : (1 : Int32).toNatClampNeg = 1 := by decide
  rw [zk] at q5
  rw [q2, q3, q4, q5]
  refine ⟨⟨⟨fun w => absurd w oz, fun w => absurd w (by rw [updI_s]; exact nar1)⟩, Or.inr (tieL_cp T (fun k hk => ?_) (fun k hk => cpy10 hk) (fun k hk => cpy4 hk))⟩, ?_⟩
  · rw [Nat.zero_add]; exact (congrArg K (by omega)).trans (k1 k hk)
  · obtain ⟨u1, u2⟩ := T1
    refine ⟨?_, ?_⟩
    · rw [updI_n (by decide)]; exact u1
    · rw [updI_n (by decide)]
      rcases u2 with u2 | u2
      · exact Or.inl u2
      · exact Or.inr (tieL_mv u2 (fun k p1 p2 => k2 k (by omega)))
theorem image_tn_1 {lj lf lc j' f' c' r1 r2 : Int32} {n1 m1 n2 m2 n3 m3 nam kn A1 A2 A3 KN' E1 E2 E3 : Nat → Int64} {p p' L L0 h h' t t' D D0 c c0 z z' L' D' kept now ik K' I' : Nat → Int32} (T : tieN 0 lj lf lc n1 n2 n3 nam) (T1 : tieM 0 j' f' c' E1 E2 E3 kn ik) (h1 : (r1, A1, A2, A3, L', D') = y_X11_image_1 n1 m1 n2 m2 n3 m3 p p' L L0 h h' t t' D D0 c c0 z z') (h2 : (r2, K', KN', I') = y_X12_image_1 kept now nam kn ik) : tieM 1 lj lf lc A1 A2 A3 KN' I' ∧ tieM 0 j' f' c' E1 E2 E3 KN' I' := by
  obtain ⟨K, KN, e, -, -, k1, k2⟩ := image12_1 kept now nam kn ik
  rw [image11_1] at h1
  rw [e] at h2
  simp only [Prod.mk.injEq] at h1 h2
  obtain ⟨-, q1, q2, q3, -, -⟩ := h1
  obtain ⟨-, -, q4, q5⟩ := h2
  have zk : (1 : Int32).toNatClampNeg = 1 := by decide
  rw [zk] at q5
  rw [q1, q2, q3, q4, q5]
  refine ⟨Or.inr (tieN_cp T (fun k hk => ?_) (fun k hk => cpy10 hk) (fun k hk => cpy4 hk) (fun k hk => cpy5 hk)), ?_⟩
  · rw [Nat.zero_add]; exact (congrArg KN (by omega)).trans (k1 k hk)
  · unfold tieM
    rw [updI_n (by decide)]
    rcases T1 with u2 | u2
    · exact Or.inl u2
    · exact Or.inr (tieN_mv u2 (fun k p1 p2 => k2 k (by omega)))
theorem rs60_1 (kn : Nat → Int64) : ∀ (u i m : Nat) (f : Nat → Int32) (fn : Nat → Int64), i + u = 19 → u < m → (∀ j, j < i → fn j = kn (19 + j)) → ∃ A : Nat → Int64, y_X12_restore_1_60 kn m (nI i) f fn = (1, f, A) ∧ ∀ j, j < 19 → A j = kn (19 + j) := by
  intro u
  induction u with
  | zero =>
    intro i m f fn h1 h2 h3
    obtain ⟨m, rfl⟩ : ∃ z, m = z + 1 := ⟨m - 1, by omega⟩
    refine ⟨fn, ?_, fun j hj => h3 j (by omega)⟩
    rw [y_X12_restore_1_60_s, if_pos (show (19 : Int32) ≤ nI i from nI_le (a := 19) (by omega) (by omega))]
  | succ u ih =>
    intro i m f fn h1 h2 h3
    obtain ⟨m, rfl⟩ : ∃ z, m = z + 1 := ⟨m - 1, by omega⟩
    rw [y_X12_restore_1_60_s, if_neg (show ¬ (19 : Int32) ≤ nI i from nI_ge (b := 19) (by omega) (by omega)), lt1_v, lt1_v, lt1_v, lt1_v, show (19 : Int32) + nI i = nI (19 + i) from nI_add 19 i, nI_clamp (show 19 + i < 2 ^ 31 by omega), nI_clamp (show i < 2 ^ 31 by omega), nI_1]
    refine ih (i + 1) m _ _ (by omega) (by omega) (fun j hj => ?_)
    by_cases e : j = i
    · subst e; rw [updL_s]
    · rw [updL_n e]; exact h3 j (by omega)
theorem rs27_1 (kept : Nat → Int32) (kn nam : Nat → Int64) : ∀ (u i m : Nat) (f : Nat → Int32), i + u = 376 → u < m → (∀ j, j < i → f j = kept (376 + j)) → ∃ (N : Nat → Int32) (A : Nat → Int64), y_X12_restore_1_27 kept kn nam m (nI i) f = (1, N, A) ∧ (∀ j, j < 376 → N j = kept (376 + j)) ∧ ∀ j, j < 19 → A j = kn (19 + j) := by
  intro u
  induction u with
  | zero =>
    intro i m f h1 h2 h3
    obtain ⟨m, rfl⟩ : ∃ z, m = z + 1 := ⟨m - 1, by omega⟩
    obtain ⟨A, e1, e2⟩ := rs60_1 kn 19 0 20 f nam (by omega) (by omega) (fun j hj => absurd hj (by omega))
    refine ⟨f, A, ?_, fun j hj => h3 j (by omega), e2⟩
    rw [y_X12_restore_1_27_s, if_pos (show (376 : Int32) ≤ nI i from nI_le (a := 376) (by omega) (by omega))]
    exact e1
  | succ u ih =>
    intro i m f h1 h2 h3
    obtain ⟨m, rfl⟩ : ∃ z, m = z + 1 := ⟨m - 1, by omega⟩
    rw [y_X12_restore_1_27_s, if_neg (show ¬ (376 : Int32) ≤ nI i from nI_ge (b := 376) (by omega) (by omega)), lt1_v, lt1_v, lt1_v, lt1_v, show (376 : Int32) + nI i = nI (376 + i) from nI_add 376 i, nI_clamp (show 376 + i < 2 ^ 31 by omega), nI_clamp (show i < 2 ^ 31 by omega), nI_1]
    refine ih (i + 1) m _ (by omega) (by omega) (fun j hj => ?_)
    by_cases e : j = i
    · subst e; rw [updI_s]
    · rw [updI_n e]; exact h3 j (by omega)
theorem restore_both_1 {fi lj lf lc lo ld ij if_ ic io id_ r1 r2 j1 f1 c1 a1 b1 : Int32} {n1 m1 n2 m2 n3 m3 nam kn A1 A2 A3 A' : Nat → Int64} {p p' IL L h h' t t' ID D c c0 z z' L1 D1 now K I N' : Nat → Int32} (k0 : fi = 0 ↔ I 1 = 0) (h1 : (r1, j1, f1, c1, a1, b1, A1, A2, A3, L1, D1) = y_X11_restore_1 fi lj lf lc lo ld ij if_ ic io id_ n1 m1 n2 m2 n3 m3 p p' IL L h h' t t' ID D c c0 z z') (h2 : (r2, N', A') = y_X12_restore_1 I now K kn nam) :
    (I 1 = 0 ∧ j1 = lj ∧ f1 = lf ∧ c1 = lc ∧ a1 = lo ∧ b1 = ld ∧ A1 = m1 ∧ A2 = m2 ∧ A3 = m3 ∧ L1 = L ∧ D1 = D ∧ N' = now ∧ A' = nam) ∨
    (¬ I 1 = 0 ∧ j1 = ij ∧ f1 = if_ ∧ c1 = ic ∧ a1 = io ∧ b1 = id_ ∧ (∀ k, k < 10 → A1 k = n1 k) ∧ (∀ k, k < 4 → A2 k = n2 k) ∧ (∀ k, k < 5 → A3 k = n3 k) ∧ (∀ k, k < 10 → L1 k = IL k) ∧ (∀ k, k < 4 → D1 k = ID k) ∧ (∀ k, k < 376 → N' k = K (376 + k)) ∧ ∀ k, k < 19 → A' k = kn (19 + k)) := by
  have zk : (1 : Int32).toNatClampNeg = 1 := by decide
  rw [y_X12_restore_1_s, isIn_1, lt1_v, if_neg oz, lt1_v, zk] at h2
  by_cases w : fi = 0
  · have e1 : y_X11_restore_1 fi lj lf lc lo ld ij if_ ic io id_ n1 m1 n2 m2 n3 m3 p p' IL L h h' t t' ID D c c0 z z' = (0, lj, lf, lc, lo, ld, m1, m2, m3, L, D) := by rw [y_X11_restore_1_s, if_pos w]
    rw [e1] at h1
    rw [if_pos (k0.mp w)] at h2
    simp only [Prod.mk.injEq] at h1 h2
    obtain ⟨-, q2, q3, q4, q5, q6, q7, q8, q9, q10, q11⟩ := h1
    exact Or.inl ⟨k0.mp w, q2, q3, q4, q5, q6, q7, q8, q9, q10, q11, h2.2.1, h2.2.2⟩
  · have wi : ¬ I 1 = 0 := fun y => w (k0.mpr y)
    have e1 : y_X11_restore_1 fi lj lf lc lo ld ij if_ ic io id_ n1 m1 n2 m2 n3 m3 p p' IL L h h' t t' ID D c c0 z z' = (1, ij, if_, ic, io, id_, va_cpy n1 m1 (0 : Int32).toNatClampNeg (0 : Int32).toNatClampNeg (10 : Int32).toNatClampNeg, va_cpy n2 m2 (0 : Int32).toNatClampNeg (0 : Int32).toNatClampNeg (4 : Int32).toNatClampNeg, va_cpy n3 m3 (0 : Int32).toNatClampNeg (0 : Int32).toNatClampNeg (5 : Int32).toNatClampNeg, va_cpy IL L (0 : Int32).toNatClampNeg (0 : Int32).toNatClampNeg (10 : Int32).toNatClampNeg, va_cpy ID D (0 : Int32).toNatClampNeg (0 : Int32).toNatClampNeg (4 : Int32).toNatClampNeg) := by rw [y_X11_restore_1_s, if_neg w]; rfl
    obtain ⟨N, A, e2, e3, e4⟩ := rs27_1 K kn nam 376 0 377 now (by omega) (by omega) (fun j hj => absurd hj (by omega))
    rw [e1] at h1
    rw [if_neg wi, show y_X12_restore_1_27 K kn nam 377 0 now = (1, N, A) from e2] at h2
    simp only [Prod.mk.injEq] at h1 h2
    obtain ⟨-, q2, q3, q4, q5, q6, q7, q8, q9, q10, q11⟩ := h1
    exact Or.inr ⟨wi, q2, q3, q4, q5, q6, fun k hk => by rw [q7]; exact cpy10 hk, fun k hk => by rw [q8]; exact cpy4 hk, fun k hk => by rw [q9]; exact cpy5 hk, fun k hk => by rw [q10]; exact cpy10 hk, fun k hk => by rw [q11]; exact cpy4 hk, fun k hk => by rw [h2.2.1]; exact e3 k hk, fun k hk => by rw [h2.2.2]; exact e4 k hk⟩
theorem restore_tie_1 {fi lj lf lc lo ld ij if_ ic io id_ r1 r2 j1 f1 c1 a1 b1 : Int32} {n1 m1 n2 m2 n3 m3 nam kn A1 A2 A3 A' : Nat → Int64} {p p' IL L h h' t t' ID D c c0 z z' L1 D1 now K I N' : Nat → Int32} (T : tieL 0 lj lf lc lo ld L D now) (TK : tieK 1 fi ij if_ ic io id_ IL ID K I) (h1 : (r1, j1, f1, c1, a1, b1, A1, A2, A3, L1, D1) = y_X11_restore_1 fi lj lf lc lo ld ij if_ ic io id_ n1 m1 n2 m2 n3 m3 p p' IL L h h' t t' ID D c c0 z z') (h2 : (r2, N', A') = y_X12_restore_1 I now K kn nam) : tieL 0 j1 f1 c1 a1 b1 L1 D1 N' := by
  rcases restore_both_1 TK.1 h1 h2 with ⟨-, q2, q3, q4, q5, q6, -, -, -, q10, q11, q12, -⟩ | ⟨wi, q2, q3, q4, q5, q6, -, -, -, q10, q11, q12, -⟩
  · rw [q2, q3, q4, q5, q6, q10, q11, q12]; exact T
  · rw [q2, q3, q4, q5, q6]
    rcases TK.2 with k1 | k1
    · exact absurd k1 wi
    · refine tieL_cp k1 (fun k hk => ?_) q10 q11
      rw [Nat.zero_add]; exact (q12 k hk).trans (congrArg K (by omega))
theorem restore_tn_1 {fi lj lf lc lo ld ij if_ ic io id_ r1 r2 j1 f1 c1 a1 b1 : Int32} {n1 m1 n2 m2 n3 m3 nam kn A1 A2 A3 A' : Nat → Int64} {p p' IL L h h' t t' ID D c c0 z z' L1 D1 now K I N' : Nat → Int32} (T : tieN 0 lj lf lc m1 m2 m3 nam) (k0 : fi = 0 ↔ I 1 = 0) (TM : tieM 1 ij if_ ic n1 n2 n3 kn I) (h1 : (r1, j1, f1, c1, a1, b1, A1, A2, A3, L1, D1) = y_X11_restore_1 fi lj lf lc lo ld ij if_ ic io id_ n1 m1 n2 m2 n3 m3 p p' IL L h h' t t' ID D c c0 z z') (h2 : (r2, N', A') = y_X12_restore_1 I now K kn nam) : tieN 0 j1 f1 c1 A1 A2 A3 A' := by
  rcases restore_both_1 k0 h1 h2 with ⟨-, q2, q3, q4, -, -, q7, q8, q9, -, -, -, q13⟩ | ⟨wi, q2, q3, q4, -, -, q7, q8, q9, -, -, -, q13⟩
  · rw [q2, q3, q4, q7, q8, q9, q13]; exact T
  · rw [q2, q3, q4]
    rcases TM with k1 | k1
    · exact absurd k1 wi
    · refine tieN_cp k1 (fun k hk => ?_) q7 q8 q9
      rw [Nat.zero_add]; exact (q13 k hk).trans (congrArg kn (by omega))
theorem count_tie {a lj lf lc lo ld len r1 r2 : Int32} {L D now : Nat → Int32} (T : tieL 0 lj lf lc lo ld L D now) (h1 : r1 = y_X11_count a lj lf lc lo ld len) (h2 : r2 = y_X12_count a len now) : r1 = r2 := by
  obtain ⟨t0, t1, t2, t3, t4, -, -⟩ := T
  rw [h1, h2, y_X11_count_s, y_X12_count_s]
  by_cases a0 : a = 0
  · rw [if_pos a0, if_pos a0, lt1_v, show (0 : Int32).toNatClampNeg = 0 from by decide]; exact t0
  rw [if_neg a0, if_neg a0]
  by_cases a1 : a = 1
  · rw [if_pos a1, if_pos a1, lt1_v, show (1 : Int32).toNatClampNeg = 1 from by decide]; exact t1
  rw [if_neg a1, if_neg a1]
  by_cases a2 : a = 2
  · rw [if_pos a2, if_pos a2, lt1_v, show (2 : Int32).toNatClampNeg = 2 from by decide]; exact t2
  rw [if_neg a2, if_neg a2]
  by_cases a3 : a = 3
  · rw [if_pos a3, if_pos a3, lt1_v, show (3 : Int32).toNatClampNeg = 3 from by decide]; exact t3
  rw [if_neg a3, if_neg a3]
  by_cases a4 : a = 4
  · rw [if_pos a4, if_pos a4, lt1_v, show (4 : Int32).toNatClampNeg = 4 from by decide]; exact t4
  rw [if_neg a4, if_neg a4]
theorem isIn_many {x n : Int32} (hr : rg 0 10 n) : y_X12_isIn x 0 (n - 1) = if x < 0 then 0 else if n ≤ x then 0 else 1 := by
  have e : (n - 1).toInt = n.toInt - 1 := tsub (a := 0) (b := 10) (d := 1) (f := 1) hr ⟨by decide, by decide⟩ (by decide) (by decide)
  rw [y_X12_isIn_s]
  by_cases c : x < 0
  · rw [if_pos c, if_pos c]
  · rw [if_neg c, if_neg c]
    by_cases d : n ≤ x
    · rw [if_pos d, if_pos (Int32.lt_iff_toInt_lt.mpr (by have q := Int32.le_iff_toInt_le.mp d; omega))]
    · rw [if_neg d, if_neg (fun y => d (Int32.le_iff_toInt_le.mpr (by have q := Int32.lt_iff_toInt_lt.mp y; omega)))]
theorem isJ_eq {x n : Int32} {now : Nat → Int32} (hr : rg 0 10 n) (e : n = now 0) : y_X12_isJuror x now = y_X11_isJuror x n := by
  rw [y_X12_isJuror_s, y_X11_isJuror_s, lt1_v, lt1_v, lt1_v, show (0 : Int32).toNatClampNeg = 0 from by decide, ← e, isIn_many hr]
  by_cases c : x < 0
  · rw [if_pos c, if_pos rfl]
  · rw [if_neg c]
    by_cases d : n ≤ x
    · rw [if_pos d, if_pos rfl]
    · rw [if_neg d, if_neg oz]
theorem isF_eq {x n : Int32} {now : Nat → Int32} (hr : rg 0 10 n) (e : n = now 1) : y_X12_isFloor x now = y_X11_isFloor x n := by
  rw [y_X12_isFloor_s, y_X11_isFloor_s, lt1_v, lt1_v, lt1_v, show (1 : Int32).toNatClampNeg = 1 from by decide, ← e, isIn_many hr]
  by_cases c : x < 0
  · rw [if_pos c, if_pos rfl]
  · rw [if_neg c]
    by_cases d : n ≤ x
    · rw [if_pos d, if_pos rfl]
    · rw [if_neg d, if_neg oz]
theorem isJ_in {x n : Int32} (h : ¬ y_X11_isJuror x n = 0) : 0 ≤ x.toInt ∧ x.toInt < n.toInt := by
  rw [y_X11_isJuror_s] at h
  by_cases c : x < 0
  · rw [if_pos c] at h; exact absurd rfl h
  · rw [if_neg c] at h
    by_cases d : n ≤ x
    · rw [if_pos d] at h; exact absurd rfl h
    · rw [Int32.lt_iff_toInt_lt, show (0 : Int32).toInt = 0 from by decide] at c
      rw [Int32.le_iff_toInt_le] at d
      omega
theorem isF_in {x n : Int32} (h : ¬ y_X11_isFloor x n = 0) : 0 ≤ x.toInt ∧ x.toInt < n.toInt := by
  rw [y_X11_isFloor_s] at h
  by_cases c : x < 0
  · rw [if_pos c] at h; exact absurd rfl h
  · rw [if_neg c] at h
    by_cases d : n ≤ x
    · rw [if_pos d] at h; exact absurd rfl h
    · rw [Int32.lt_iff_toInt_lt, show (0 : Int32).toInt = 0 from by decide] at c
      rw [Int32.le_iff_toInt_le] at d
      omega
theorem lastsOf_eq {j f : Nat} (hj : j < 10) (hf : f < 4) {L D now : Nat → Int32} (eL : L j = now (15 + j)) (eD : D f = now (40 + f)) : y_X5_lastsOf (nI j) (nI f) L D = y_X12_lastsOf (nI j) (nI f) now := by
  have e15 : (15 : Int32) + nI j = nI (15 + j) := nI_add 15 j
  have e40 : (40 : Int32) + nI f = nI (40 + f) := nI_add 40 f
  rw [y_X5_lastsOf_s, y_X12_lastsOf_s]
  simp only [lt1_v, e15, e40, nI_clamp (show j < 2 ^ 31 by omega), nI_clamp (show f < 2 ^ 31 by omega), nI_clamp (show 15 + j < 2 ^ 31 by omega), nI_clamp (show 40 + f < 2 ^ 31 by omega), eL, eD]
  generalize now (15 + j) - now (40 + f) = x
  by_cases c : (1 : Int32) ≤ x
  · rw [if_pos c]
    by_cases d : (1 : Int32) < x
    · rw [if_pos d]
    · rw [if_neg d]
      rw [Int32.lt_iff_toInt_lt] at d
      rw [Int32.le_iff_toInt_le] at c
      exact Int32.toInt_inj.mp (by omega)
  · rw [if_neg c, if_neg (fun d => c (Int32.le_iff_toInt_le.mpr (by have q := Int32.lt_iff_toInt_lt.mp d; omega)))]
theorem lasts11_v (a1 a2 lj lf : Int32) (L D : Nat → Int32) : y_X11_lasts a1 a2 lj lf L D = if y_X11_isJuror a1 lj = 0 then (-1) else if y_X11_isFloor a2 lf = 0 then (-1) else y_X5_lastsOf a1 a2 L D := by
  rw [y_X11_lasts_s, lt1_v]
  by_cases c : y_X11_isJuror a1 lj = 0
  · rw [if_pos c, if_pos c]
  · rw [if_neg c, if_neg c, lt1_v]
    by_cases d : y_X11_isFloor a2 lf = 0
    · rw [if_pos d, if_pos d]
    · rw [if_neg d, if_neg d, lt1_v]
theorem lasts12_v (a1 a2 : Int32) (now : Nat → Int32) : y_X12_lasts a1 a2 now = if y_X12_isJuror a1 now = 0 then (-1) else if y_X12_isFloor a2 now = 0 then (-1) else y_X12_lastsOf a1 a2 now := by
  rw [y_X12_lasts_s, lt1_v]
  by_cases c : y_X12_isJuror a1 now = 0
  · rw [if_pos c, if_pos c]
  · rw [if_neg c, if_neg c, lt1_v]
    by_cases d : y_X12_isFloor a2 now = 0
    · rw [if_pos d, if_pos d]
    · rw [if_neg d, if_neg d, lt1_v]
theorem lasts_tie {a1 a2 lj lf lc lo ld r1 r2 : Int32} {L D now : Nat → Int32} (hj : rg 0 10 lj) (hf : rg 0 4 lf) (T : tieL 0 lj lf lc lo ld L D now) (h1 : r1 = y_X11_lasts a1 a2 lj lf L D) (h2 : r2 = y_X12_lasts a1 a2 now) : r1 = r2 := by
  obtain ⟨t0, t1, -, -, -, t5, t6⟩ := T
  rw [h1, h2, lasts11_v, lasts12_v, isJ_eq hj t0, isF_eq (rgw hf (by decide) (by decide)) t1]
  by_cases c : y_X11_isJuror a1 lj = 0
  · rw [if_pos c, if_pos c]
  · rw [if_neg c, if_neg c]
    by_cases d : y_X11_isFloor a2 lf = 0
    · rw [if_pos d, if_pos d]
    · rw [if_neg d, if_neg d]
      have p := isJ_in c
      have q := isF_in d
      have p2 := hj.2
      have q2 := hf.2
      obtain ⟨j, ej⟩ : ∃ n : Nat, a1.toInt = (n : Int) := ⟨a1.toInt.toNat, by omega⟩
      obtain ⟨f, ef⟩ : ∃ n : Nat, a2.toInt = (n : Int) := ⟨a2.toInt.toNat, by omega⟩
      have e1 : a1 = nI j := Int32.toInt_inj.mp (by rw [nI_toInt (by omega)]; exact ej)
      have e2 : a2 = nI f := Int32.toInt_inj.mp (by rw [nI_toInt (by omega)]; exact ef)
      rw [e1, e2]
      have z1 := t5 j (by omega) (by omega)
      have z2 := t6 f (by omega) (by omega)
      rw [Nat.zero_add] at z1 z2
      exact lastsOf_eq (by omega) (by omega) z1 z2
