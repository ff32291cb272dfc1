/-! LINES of a COURT, in both -/
def DR (j f c : Nat) (one dent seated t1 t2 : Int32) (N1 N2 N3 : Nat → Int64) (pi le ha tu du cf td : Nat → Int32) (rd : Nat → Int32) (M : Nat → Int64) (on : Nat → Int32) : Prop :=
  NM j f c N1 N2 N3 M ∧ (rd 0 = nI j ∧ rd 1 = nI f ∧ rd 2 = nI c ∧ rd 3 = one ∧ rd 4 = dent ∧ rd 35 = seated) ∧ (∀ k, k < j → pi k = rd (5 + k) ∧ le k = rd (15 + k) ∧ ha k = rd (25 + k)) ∧ (∀ k, k < f → tu k = rd (36 + k) ∧ du k = rd (40 + k)) ∧ (∀ k, k < c → cf k = rd (44 + k)) ∧ (∀ k, k < 40 → td k = rd (49 + k)) ∧ on 0 = t1 ∧ on 1 = t2
theorem lt10_v {j : Nat} (h : j ≤ 10) : (nI j < (10 : Int32)) ↔ j < 10 := by
  rw [Int32.lt_iff_toInt_lt, nI_toInt (by omega), show (10 : Int32).toInt = 10 from by decide]; omega
theorem lt4_v {j : Nat} (h : j ≤ 10) : (nI j < (4 : Int32)) ↔ j < 4 := by
  rw [Int32.lt_iff_toInt_lt, nI_toInt (by omega), show (4 : Int32).toInt = 4 from by decide]; omega
theorem lt5_v {j : Nat} (h : j ≤ 10) : (nI j < (5 : Int32)) ↔ j < 5 := by
  rw [Int32.lt_iff_toInt_lt, nI_toInt (by omega), show (5 : Int32).toInt = 5 from by decide]; omega
theorem updL_s {f : Nat → Int64} {k : Nat} {v : Int64} : vp_updL f k v k = v := by simp [vp_updL]
theorem updL_n {f : Nat → Int64} {k j : Nat} {v : Int64} (h : j ≠ k) : vp_updL f k v j = f j := by simp [vp_updL, h]
/-- one name more -/
theorem NM_j {j f c : Nat} {N1 N2 N3 M : Nat → Int64} {L W : Int64} (h : NM j f c N1 N2 N3 M) (hj : j < 10) (w : wr L W) : NM (j + 1) f c (vp_updL N1 j L) N2 N3 (vp_updL M j W) := by
  obtain ⟨h1, h2, h3, n1, n2, n3⟩ := h
  refine ⟨by omega, h2, h3, fun k hk => ?_, fun k hk => ?_, fun k hk => ?_⟩
  · by_cases e : k = j
    · subst e; rw [updL_s, Nat.zero_add, updL_s]; exact w
    · rw [updL_n e, updL_n (by omega)]; exact n1 k (by omega)
  · rw [updL_n (by omega)]; exact n2 k hk
  · rw [updL_n (by omega)]; exact n3 k hk
theorem NM_f {j f c : Nat} {N1 N2 N3 M : Nat → Int64} {L W : Int64} (h : NM j f c N1 N2 N3 M) (hf : f < 4) (w : wr L W) : NM j (f + 1) c N1 (vp_updL N2 f L) N3 (vp_updL M (10 + f) W) := by
  obtain ⟨h1, h2, h3, n1, n2, n3⟩ := h
  refine ⟨h1, by omega, h3, fun k hk => ?_, fun k hk => ?_, fun k hk => ?_⟩
  · rw [updL_n (by omega)]; exact n1 k hk
  · by_cases e : k = f
    · subst e; rw [updL_s, updL_s]; exact w
    · rw [updL_n e, updL_n (by omega)]; exact n2 k (by omega)
  · rw [updL_n (by omega)]; exact n3 k hk
theorem NM_c {j f c : Nat} {N1 N2 N3 M : Nat → Int64} {L W : Int64} (h : NM j f c N1 N2 N3 M) (hc : c < 5) (w : wr L W) : NM j f (c + 1) N1 N2 (vp_updL N3 c L) (vp_updL M (14 + c) W) := by
  obtain ⟨h1, h2, h3, n1, n2, n3⟩ := h
  refine ⟨h1, h2, by omega, fun k hk => ?_, fun k hk => ?_, fun k hk => ?_⟩
  · rw [updL_n (by omega)]; exact n1 k hk
  · rw [updL_n (by omega)]; exact n2 k hk
  · by_cases e : k = c
    · subst e; rw [updL_s, updL_s]; exact w
    · rw [updL_n e, updL_n (by omega)]; exact n3 k (by omega)
