/-! FEED, in both -/
def cm (a : Int32) (l : Nat) (F : Nat → Int32) : Nat → Int32 := upd (upd (upd (upd F l (((a : Int32).toUInt32 >>> ((24 : Int32).toUInt32 &&& Int32.toUInt32 31)).toInt32 &&& 255)) (l + 1) (((a : Int32).toUInt32 >>> ((16 : Int32).toUInt32 &&& Int32.toUInt32 31)).toInt32 &&& 255)) (l + 1 + 1) (((a : Int32).toUInt32 >>> ((8 : Int32).toUInt32 &&& Int32.toUInt32 31)).toInt32 &&& 255)) (l + 1 + 1 + 1) (((a : Int32).toUInt32 >>> ((0 : Int32).toUInt32 &&& Int32.toUInt32 31)).toInt32 &&& 255)
theorem come_v (a : Int32) {l : Nat} (hl : l + 4 ≤ 940) (F : Nat → Int32) : y_X12_come a (nI l) F = (nI (l + 1 + 1 + 1 + 1), cm a l F) := by
  rw [y_X12_come_s]; simp only [lt1, nI_1, nI_clamp (show l < 2 ^ 31 by omega), nI_clamp (show l + 1 < 2 ^ 31 by omega), nI_clamp (show l + 1 + 1 < 2 ^ 31 by omega), nI_clamp (show l + 1 + 1 + 1 < 2 ^ 31 by omega)]; rfl
theorem append_v (a : Int32) {l : Nat} (hl : l + 4 ≤ 940) (F : Nat → Int32) : y_X6_append a (nI l) F = (nI (l + 1 + 1 + 1 + 1), cm a l F) := by
  rw [y_X6_append_s, show (2147483673 : Nat) = 2147483668 + 1 + 1 + 1 + 1 + 1 from rfl]
  rw [y_X6_append_3_s, if_neg (by decide), if_neg (show ¬ (940 : Int32) ≤ nI l from nI_ge (b := 940) (by omega) (by omega))]
  simp only [lt1, nI_1, nI_clamp (show l < 2 ^ 31 by omega), nI_clamp (show l + 1 < 2 ^ 31 by omega), nI_clamp (show l + 1 + 1 < 2 ^ 31 by omega), nI_clamp (show l + 1 + 1 + 1 < 2 ^ 31 by omega), show (24 : Int32) + (-8) = 16 from by decide]
  rw [y_X6_append_3_s, if_neg (by decide), if_neg (show ¬ (940 : Int32) ≤ nI (l + 1) from nI_ge (b := 940) (by omega) (by omega))]
  simp only [lt1, nI_1, nI_clamp (show l < 2 ^ 31 by omega), nI_clamp (show l + 1 < 2 ^ 31 by omega), nI_clamp (show l + 1 + 1 < 2 ^ 31 by omega), nI_clamp (show l + 1 + 1 + 1 < 2 ^ 31 by omega), show (16 : Int32) + (-8) = 8 from by decide]
  rw [y_X6_append_3_s, if_neg (by decide), if_neg (show ¬ (940 : Int32) ≤ nI (l + 1 + 1) from nI_ge (b := 940) (by omega) (by omega))]
  simp only [lt1, nI_1, nI_clamp (show l < 2 ^ 31 by omega), nI_clamp (show l + 1 < 2 ^ 31 by omega), nI_clamp (show l + 1 + 1 < 2 ^ 31 by omega), nI_clamp (show l + 1 + 1 + 1 < 2 ^ 31 by omega), show (8 : Int32) + (-8) = 0 from by decide]
  rw [y_X6_append_3_s, if_neg (by decide), if_neg (show ¬ (940 : Int32) ≤ nI (l + 1 + 1 + 1) from nI_ge (b := 940) (by omega) (by omega))]
  simp only [lt1, nI_1, nI_clamp (show l < 2 ^ 31 by omega), nI_clamp (show l + 1 < 2 ^ 31 by omega), nI_clamp (show l + 1 + 1 < 2 ^ 31 by omega), nI_clamp (show l + 1 + 1 + 1 < 2 ^ 31 by omega), show (0 : Int32) + (-8) = -8 from by decide]
  rw [y_X6_append_3_s, if_pos (by decide)]
  rfl
theorem cm_agr (a : Int32) {l : Nat} {F G : Nat → Int32} (ha : ∀ j, j < l → F j = G j) : ∀ j, j < l + 1 + 1 + 1 + 1 → cm a l F j = cm a l G j := by
  intro j hj
  unfold cm
  by_cases e3 : j = l + 1 + 1 + 1
  · subst e3; rw [updI_s, updI_s]
  · rw [updI_n e3, updI_n e3]
    by_cases e2 : j = l + 1 + 1
    · subst e2; rw [updI_s, updI_s]
    · rw [updI_n e2, updI_n e2]
      by_cases e1 : j = l + 1
      · subst e1; rw [updI_s, updI_s]
      · rw [updI_n e1, updI_n e1]
        by_cases e0 : j = l
        · subst e0; rw [updI_s, updI_s]
        · rw [updI_n e0, updI_n e0]; exact ha j (by omega)
theorem feed_agr {l : Nat} (hl : l ≤ 940) {F G : Nat → Int32} (ha : ∀ j, j < l → F j = G j) (a1 a2 a3 a4 a5 : Int32) : ∃ (r : Int32) (l1 : Nat) (F1 G1 : Nat → Int32), l1 ≤ 940 ∧ y_X11_feed a1 a2 a3 a4 a5 (nI l) F = (r, nI l1, F1) ∧ y_X12_feed a1 a2 a3 a4 a5 (nI l) G = (r, nI l1, G1) ∧ ∀ j, j < l1 → F1 j = G1 j := by
  have e : nI l + 20 = nI (l + 20) := nI_add l 20
  by_cases c : l + 20 ≤ 940
  · have c' : nI (l + 20) ≤ (940 : Int32) := nI_le (b := 940) c (by omega)
    refine ⟨nI (l + 4 + 4 + 4 + 4 + 4), l + 4 + 4 + 4 + 4 + 4, cm a5 (l + 4 + 4 + 4 + 4) (cm a4 (l + 4 + 4 + 4) (cm a3 (l + 4 + 4) (cm a2 (l + 4) (cm a1 l F)))), cm a5 (l + 4 + 4 + 4 + 4) (cm a4 (l + 4 + 4 + 4) (cm a3 (l + 4 + 4) (cm a2 (l + 4) (cm a1 l G)))), by omega, ?_, ?_, ?_⟩
    · rw [y_X11_feed_s]; simp only [lt1, e, if_pos c', lt2]
      rw [append_v a1 (show l + 4 ≤ 940 by omega), append_v a2 (show l + 4 + 4 ≤ 940 by omega), append_v a3 (show l + 4 + 4 + 4 ≤ 940 by omega), append_v a4 (show l + 4 + 4 + 4 + 4 ≤ 940 by omega), append_v a5 (show l + 4 + 4 + 4 + 4 + 4 ≤ 940 by omega)]
    · rw [y_X12_feed_s]; simp only [lt1, e, if_pos c', lt2]
      rw [come_v a1 (show l + 4 ≤ 940 by omega), come_v a2 (show l + 4 + 4 ≤ 940 by omega), come_v a3 (show l + 4 + 4 + 4 ≤ 940 by omega), come_v a4 (show l + 4 + 4 + 4 + 4 ≤ 940 by omega), come_v a5 (show l + 4 + 4 + 4 + 4 + 4 ≤ 940 by omega)]
    · exact cm_agr a5 (cm_agr a4 (cm_agr a3 (cm_agr a2 (cm_agr a1 ha))))
  · have c' : ¬ nI (l + 20) ≤ (940 : Int32) := nI_ge (a := 940) (by omega) (by omega)
    exact ⟨-1, l, F, G, hl, by rw [y_X11_feed_s]; simp only [lt1, e, if_neg c'], by rw [y_X12_feed_s]; simp only [lt1, e, if_neg c'], ha⟩
