theorem eBook_lo {n : Int32} (h : n < 0) : -1000 = eBook n := by have := zlt h; rw [zi0] at this; unfold eBook; rw [if_neg (by omega), if_neg (by omega)]
theorem eBook_hi {n : Int32} (h : 1 < n) : -1000 = eBook n := by have := zlt h; rw [zi1] at this; unfold eBook; rw [if_neg (by omega), if_neg (by omega)]
theorem eBook_in {n : Int32} (h : ¬ n < 0) (h2 : ¬ 1 < n) : -1 = eBook n := by
  have a := znlt h; have b := znlt h2; rw [zi0] at a; rw [zi1] at b; unfold eBook
  by_cases q : n.toInt = 0
  · rw [if_pos q]
  · rw [if_neg q, if_pos (by omega)]
theorem eDays_d {n : Int32} (h : ¬ n < 1) (h2 : ¬ 60 < n) : n = eDays n := eDays_c h (Int32.not_lt.mp h2)
theorem oI2m {x : Int32} (h : ¬ x < 0) (h2 : ¬ 1 < x) : x = 0 ∨ x = 1 := by
  have a := znlt h; have b := znlt h2; rw [zi0] at a; rw [zi1] at b
  rcases (show x.toInt = 0 ∨ x.toInt = 1 by omega) with q | q
  · exact Or.inl (Int32.toInt_inj.mp (by rw [q]; decide))
  · exact Or.inr (Int32.toInt_inj.mp (by rw [q]; decide))
theorem o400 {x : Int32} (h : ¬ 60 < x) : x < 400 := by
  have a := znlt h
  rw [zi60] at a
  exact Int32.lt_iff_toInt_lt.mpr (by have c : (400 : Int32).toInt = 400 := by decide
                                      omega)
theorem eIm_0 {n : Int32} (h : n = 0) : 1 = eIm n := by rw [h]; decide
theorem eIm_1 {n : Int32} (h : n = 1) : 1 = eIm n := by rw [h]; decide
