/-! the answers of a fresh object, by the argument -/
def eEnd (n : Int32) : Int32 := if n.toInt = 0 then 1 else 0
def eDays (n : Int32) : Int32 := if n.toInt < 1 then -1 else if n.toInt ≤ 60 then n else -1
def eBook (n : Int32) : Int32 := if n.toInt = 0 then -1 else if n.toInt = 1 then -1 else -1000
def eIm (n : Int32) : Int32 := if n.toInt < 0 then 0 else if n.toInt < 2 then 1 else 0
def eNow (n : Int32) : Int32 := if n.toInt < 0 then -1 else if n.toInt ≤ 7 then 0 else -1
def eCount (n : Int32) : Int32 := if n.toInt = 3 then 3 else if n.toInt = 4 then 1 else if n.toInt < 0 then -1 else if n.toInt ≤ 5 then 0 else -1
theorem zi0 : (0 : Int32).toInt = 0 := by decide
theorem zi1 : (1 : Int32).toInt = 1 := by decide
theorem zi2 : (2 : Int32).toInt = 2 := by decide
theorem zi60 : (60 : Int32).toInt = 60 := by decide
theorem zlt {a b : Int32} (h : a < b) : a.toInt < b.toInt := Int32.lt_iff_toInt_lt.mp h
theorem znlt {a b : Int32} (h : ¬ a < b) : b.toInt ≤ a.toInt := by have := mt Int32.lt_iff_toInt_lt.mpr h; omega
theorem zle {a b : Int32} (h : a ≤ b) : a.toInt ≤ b.toInt := Int32.le_iff_toInt_le.mp h
theorem znle {a b : Int32} (h : ¬ a ≤ b) : b.toInt < a.toInt := by have := mt Int32.le_iff_toInt_le.mpr h; omega
theorem zeq {a b : Int32} (h : a = b) : a.toInt = b.toInt := congrArg Int32.toInt h
theorem zne {a b : Int32} (h : ¬ a = b) : ¬ a.toInt = b.toInt := fun q => h (Int32.toInt_inj.mp q)
theorem eEnd_a {n : Int32} (h : n < 0) : 0 = eEnd n := by have := zlt h; rw [zi0] at this; unfold eEnd; rw [if_neg (by omega)]
theorem eEnd_b {n : Int32} (h : ¬ n ≤ 0) : 0 = eEnd n := by have := znle h; rw [zi0] at this; unfold eEnd; rw [if_neg (by omega)]
theorem eEnd_b' {n : Int32} (h : 0 < n) : 0 = eEnd n := by have := zlt h; rw [zi0] at this; unfold eEnd; rw [if_neg (by omega)]
theorem eEnd_c {n : Int32} (h : ¬ n < 0) (h2 : n ≤ 0) : 1 = eEnd n := by have a := znlt h; have b := zle h2; rw [zi0] at a b; unfold eEnd; rw [if_pos (by omega)]
theorem eDays_a {n : Int32} (h : n < 1) : -1 = eDays n := by have := zlt h; rw [zi1] at this; unfold eDays; rw [if_pos (by omega)]
theorem eDays_b {n : Int32} (h : ¬ n ≤ 60) : -1 = eDays n := by have := znle h; rw [zi60] at this; unfold eDays; rw [if_neg (by omega), if_neg (by omega)]
theorem eDays_b' {n : Int32} (h : 60 < n) : -1 = eDays n := by have := zlt h; rw [zi60] at this; unfold eDays; rw [if_neg (by omega), if_neg (by omega)]
theorem eDays_c {n : Int32} (h : ¬ n < 1) (h2 : n ≤ 60) : n = eDays n := by have a := znlt h; have b := zle h2; rw [zi1] at a; rw [zi60] at b; unfold eDays; rw [if_neg (by omega), if_pos (by omega)]
theorem eBook_a {n : Int32} (h : n = 0) : -1 = eBook n := by rw [h]; decide
theorem eBook_b {n : Int32} (h : n = 1) : -1 = eBook n := by rw [h]; decide
theorem eBook_c {n : Int32} (h : ¬ n = 0) (h2 : ¬ n = 1) : -1000 = eBook n := by have a := zne h; have b := zne h2; rw [zi0] at a; rw [zi1] at b; unfold eBook; rw [if_neg a, if_neg b]
theorem eIm_a {n : Int32} (h : n < 0) : 0 = eIm n := by have := zlt h; rw [zi0] at this; unfold eIm; rw [if_pos (by omega)]
theorem eIm_b {n : Int32} (h : ¬ n < 2) : 0 = eIm n := by have := znlt h; rw [zi2] at this; unfold eIm; rw [if_neg (by omega), if_neg (by omega)]
theorem eIm_c {n : Int32} (h : 1 < n) : 0 = eIm n := by have := zlt h; rw [zi1] at this; unfold eIm; rw [if_neg (by omega), if_neg (by omega)]
theorem omin {n : Int32} (h : n ≤ 60) : (if (400 : Int32) < n then (400 : Int32) else n) = n := by
  have a := zle h
  rw [zi60] at a
  rw [if_neg (fun q => by have b := zlt q; have c : (400 : Int32).toInt = 400 := (by decide); omega)]
theorem oI2' {x : Int32} (h : ¬ x < 0) (h2 : x < 2) : x = 0 ∨ x = 1 := oI2 h (fun q => absurd h2 (Int32.not_lt.mpr q))
theorem ogo {n : Int32} (h : ¬ n < 1) : ¬ n ≤ 0 := fun q => by have a := znlt h; have b := zle q; rw [zi1] at a; rw [zi0] at b; omega
theorem oday {n : Int32} (h : n ≤ 60) : n ≤ 400 := by
  have a := zle h
  rw [zi60] at a
  exact Int32.le_iff_toInt_le.mpr (by have c : (400 : Int32).toInt = 400 := by decide
                                      omega)
theorem eNow_in {n : Int32} {k : Nat} (h : n = nI k) (hk : k < 8) : 0 = eNow n := by
  have a := zeq h
  rw [nI_toInt (by omega)] at a
  unfold eNow
  rw [if_neg (by omega), if_pos (by omega)]
theorem eNow_out {n : Int32} (h0 : ¬ n = 0) (h1 : ¬ n = 1) (h2 : ¬ n = 2) (h3 : ¬ n = 3) (h4 : ¬ n = 4) (h5 : ¬ n = 5) (h6 : ¬ n = 6) (h7 : ¬ n = 7) : -1 = eNow n := by
  have a0 := zne h0; have a1 := zne h1; have a2 := zne h2; have a3 := zne h3; have a4 := zne h4; have a5 := zne h5; have a6 := zne h6; have a7 := zne h7
  rw [show (0 : Int32).toInt = 0 by decide] at a0; rw [show (1 : Int32).toInt = 1 by decide] at a1; rw [show (2 : Int32).toInt = 2 by decide] at a2; rw [show (3 : Int32).toInt = 3 by decide] at a3; rw [show (4 : Int32).toInt = 4 by decide] at a4; rw [show (5 : Int32).toInt = 5 by decide] at a5; rw [show (6 : Int32).toInt = 6 by decide] at a6; rw [show (7 : Int32).toInt = 7 by decide] at a7
  unfold eNow
  by_cases q : n.toInt < 0
  · rw [if_pos q]
  · rw [if_neg q, if_neg (by omega)]
theorem eCount_in {n r : Int32} {k : Nat} (h : n = nI k) (hr : r = eCount (nI k)) : r = eCount n := by rw [h]; exact hr
theorem eCount_out {n : Int32} (h0 : ¬ n = 0) (h1 : ¬ n = 1) (h2 : ¬ n = 2) (h3 : ¬ n = 3) (h4 : ¬ n = 4) (h5 : ¬ n = 5) : -1 = eCount n := by
  have a0 := zne h0; have a1 := zne h1; have a2 := zne h2; have a3 := zne h3; have a4 := zne h4; have a5 := zne h5
  rw [show (0 : Int32).toInt = 0 by decide] at a0; rw [show (1 : Int32).toInt = 1 by decide] at a1; rw [show (2 : Int32).toInt = 2 by decide] at a2; rw [show (3 : Int32).toInt = 3 by decide] at a3; rw [show (4 : Int32).toInt = 4 by decide] at a4; rw [show (5 : Int32).toInt = 5 by decide] at a5
  unfold eCount
  rw [if_neg a3, if_neg a4]
  by_cases q : n.toInt < 0
  · rw [if_pos q]
  · rw [if_neg q, if_neg (by omega)]
