def lt1 {A0 : Type} {B : Type} (v : A0) (k : A0 → B) : B := k v
theorem lt1_e {A0 : Type} {B : Type} {k : A0 → B} {a0 : A0} {v : A0} (h : a0 = v) : lt1 v k = k a0 := by subst h; rfl
def lt2 {A0 : Type} {A1 : Type} {B : Type} (v : A0 × A1) (k : A0 → A1 → B) : B := k v.1 v.2
theorem lt2_e {A0 : Type} {A1 : Type} {B : Type} {k : A0 → A1 → B} {a0 : A0} {a1 : A1} {v : A0 × A1} (h : (a0, a1) = v) : lt2 v k = k a0 a1 := by subst h; rfl
def lt3 {A0 : Type} {A1 : Type} {A2 : Type} {B : Type} (v : A0 × A1 × A2) (k : A0 → A1 → A2 → B) : B := k v.1 v.2.1 v.2.2
theorem lt3_e {A0 : Type} {A1 : Type} {A2 : Type} {B : Type} {k : A0 → A1 → A2 → B} {a0 : A0} {a1 : A1} {a2 : A2} {v : A0 × A1 × A2} (h : (a0, a1, a2) = v) : lt3 v k = k a0 a1 a2 := by subst h; rfl
def lt4 {A0 : Type} {A1 : Type} {A2 : Type} {A3 : Type} {B : Type} (v : A0 × A1 × A2 × A3) (k : A0 → A1 → A2 → A3 → B) : B := k v.1 v.2.1 v.2.2.1 v.2.2.2
theorem lt4_e {A0 : Type} {A1 : Type} {A2 : Type} {A3 : Type} {B : Type} {k : A0 → A1 → A2 → A3 → B} {a0 : A0} {a1 : A1} {a2 : A2} {a3 : A3} {v : A0 × A1 × A2 × A3} (h : (a0, a1, a2, a3) = v) : lt4 v k = k a0 a1 a2 a3 := by subst h; rfl
def lt5 {A0 : Type} {A1 : Type} {A2 : Type} {A3 : Type} {A4 : Type} {B : Type} (v : A0 × A1 × A2 × A3 × A4) (k : A0 → A1 → A2 → A3 → A4 → B) : B := k v.1 v.2.1 v.2.2.1 v.2.2.2.1 v.2.2.2.2
theorem lt5_e {A0 : Type} {A1 : Type} {A2 : Type} {A3 : Type} {A4 : Type} {B : Type} {k : A0 → A1 → A2 → A3 → A4 → B} {a0 : A0} {a1 : A1} {a2 : A2} {a3 : A3} {a4 : A4} {v : A0 × A1 × A2 × A3 × A4} (h : (a0, a1, a2, a3, a4) = v) : lt5 v k = k a0 a1 a2 a3 a4 := by subst h; rfl
def lt6 {A0 : Type} {A1 : Type} {A2 : Type} {A3 : Type} {A4 : Type} {A5 : Type} {B : Type} (v : A0 × A1 × A2 × A3 × A4 × A5) (k : A0 → A1 → A2 → A3 → A4 → A5 → B) : B := k v.1 v.2.1 v.2.2.1 v.2.2.2.1 v.2.2.2.2.1 v.2.2.2.2.2
theorem lt6_e {A0 : Type} {A1 : Type} {A2 : Type} {A3 : Type} {A4 : Type} {A5 : Type} {B : Type} {k : A0 → A1 → A2 → A3 → A4 → A5 → B} {a0 : A0} {a1 : A1} {a2 : A2} {a3 : A3} {a4 : A4} {a5 : A5} {v : A0 × A1 × A2 × A3 × A4 × A5} (h : (a0, a1, a2, a3, a4, a5) = v) : lt6 v k = k a0 a1 a2 a3 a4 a5 := by subst h; rfl
def lt7 {A0 : Type} {A1 : Type} {A2 : Type} {A3 : Type} {A4 : Type} {A5 : Type} {A6 : Type} {B : Type} (v : A0 × A1 × A2 × A3 × A4 × A5 × A6) (k : A0 → A1 → A2 → A3 → A4 → A5 → A6 → B) : B := k v.1 v.2.1 v.2.2.1 v.2.2.2.1 v.2.2.2.2.1 v.2.2.2.2.2.1 v.2.2.2.2.2.2
theorem lt7_e {A0 : Type} {A1 : Type} {A2 : Type} {A3 : Type} {A4 : Type} {A5 : Type} {A6 : Type} {B : Type} {k : A0 → A1 → A2 → A3 → A4 → A5 → A6 → B} {a0 : A0} {a1 : A1} {a2 : A2} {a3 : A3} {a4 : A4} {a5 : A5} {a6 : A6} {v : A0 × A1 × A2 × A3 × A4 × A5 × A6} (h : (a0, a1, a2, a3, a4, a5, a6) = v) : lt7 v k = k a0 a1 a2 a3 a4 a5 a6 := by subst h; rfl
def lt8 {A0 : Type} {A1 : Type} {A2 : Type} {A3 : Type} {A4 : Type} {A5 : Type} {A6 : Type} {A7 : Type} {B : Type} (v : A0 × A1 × A2 × A3 × A4 × A5 × A6 × A7) (k : A0 → A1 → A2 → A3 → A4 → A5 → A6 → A7 → B) : B := k v.1 v.2.1 v.2.2.1 v.2.2.2.1 v.2.2.2.2.1 v.2.2.2.2.2.1 v.2.2.2.2.2.2.1 v.2.2.2.2.2.2.2
theorem lt8_e {A0 : Type} {A1 : Type} {A2 : Type} {A3 : Type} {A4 : Type} {A5 : Type} {A6 : Type} {A7 : Type} {B : Type} {k : A0 → A1 → A2 → A3 → A4 → A5 → A6 → A7 → B} {a0 : A0} {a1 : A1} {a2 : A2} {a3 : A3} {a4 : A4} {a5 : A5} {a6 : A6} {a7 : A7} {v : A0 × A1 × A2 × A3 × A4 × A5 × A6 × A7} (h : (a0, a1, a2, a3, a4, a5, a6, a7) = v) : lt8 v k = k a0 a1 a2 a3 a4 a5 a6 a7 := by subst h; rfl
def lt9 {A0 : Type} {A1 : Type} {A2 : Type} {A3 : Type} {A4 : Type} {A5 : Type} {A6 : Type} {A7 : Type} {A8 : Type} {B : Type} (v : A0 × A1 × A2 × A3 × A4 × A5 × A6 × A7 × A8) (k : A0 → A1 → A2 → A3 → A4 → A5 → A6 → A7 → A8 → B) : B := k v.1 v.2.1 v.2.2.1 v.2.2.2.1 v.2.2.2.2.1 v.2.2.2.2.2.1 v.2.2.2.2.2.2.1 v.2.2.2.2.2.2.2.1 v.2.2.2.2.2.2.2.2
theorem lt9_e {A0 : Type} {A1 : Type} {A2 : Type} {A3 : Type} {A4 : Type} {A5 : Type} {A6 : Type} {A7 : Type} {A8 : Type} {B : Type} {k : A0 → A1 → A2 → A3 → A4 → A5 → A6 → A7 → A8 → B} {a0 : A0} {a1 : A1} {a2 : A2} {a3 : A3} {a4 : A4} {a5 : A5} {a6 : A6} {a7 : A7} {a8 : A8} {v : A0 × A1 × A2 × A3 × A4 × A5 × A6 × A7 × A8} (h : (a0, a1, a2, a3, a4, a5, a6, a7, a8) = v) : lt9 v k = k a0 a1 a2 a3 a4 a5 a6 a7 a8 := by subst h; rfl
def lt10 {A0 : Type} {A1 : Type} {A2 : Type} {A3 : Type} {A4 : Type} {A5 : Type} {A6 : Type} {A7 : Type} {A8 : Type} {A9 : Type} {B : Type} (v : A0 × A1 × A2 × A3 × A4 × A5 × A6 × A7 × A8 × A9) (k : A0 → A1 → A2 → A3 → A4 → A5 → A6 → A7 → A8 → A9 → B) : B := k v.1 v.2.1 v.2.2.1 v.2.2.2.1 v.2.2.2.2.1 v.2.2.2.2.2.1 v.2.2.2.2.2.2.1 v.2.2.2.2.2.2.2.1 v.2.2.2.2.2.2.2.2.1 v.2.2.2.2.2.2.2.2.2
theorem lt10_e {A0 : Type} {A1 : Type} {A2 : Type} {A3 : Type} {A4 : Type} {A5 : Type} {A6 : Type} {A7 : Type} {A8 : Type} {A9 : Type} {B : Type} {k : A0 → A1 → A2 → A3 → A4 → A5 → A6 → A7 → A8 → A9 → B} {a0 : A0} {a1 : A1} {a2 : A2} {a3 : A3} {a4 : A4} {a5 : A5} {a6 : A6} {a7 : A7} {a8 : A8} {a9 : A9} {v : A0 × A1 × A2 × A3 × A4 × A5 × A6 × A7 × A8 × A9} (h : (a0, a1, a2, a3, a4, a5, a6, a7, a8, a9) = v) : lt10 v k = k a0 a1 a2 a3 a4 a5 a6 a7 a8 a9 := by subst h; rfl
def lt11 {A0 : Type} {A1 : Type} {A2 : Type} {A3 : Type} {A4 : Type} {A5 : Type} {A6 : Type} {A7 : Type} {A8 : Type} {A9 : Type} {A10 : Type} {B : Type} (v : A0 × A1 × A2 × A3 × A4 × A5 × A6 × A7 × A8 × A9 × A10) (k : A0 → A1 → A2 → A3 → A4 → A5 → A6 → A7 → A8 → A9 → A10 → B) : B := k v.1 v.2.1 v.2.2.1 v.2.2.2.1 v.2.2.2.2.1 v.2.2.2.2.2.1 v.2.2.2.2.2.2.1 v.2.2.2.2.2.2.2.1 v.2.2.2.2.2.2.2.2.1 v.2.2.2.2.2.2.2.2.2.1 v.2.2.2.2.2.2.2.2.2.2
theorem lt11_e {A0 : Type} {A1 : Type} {A2 : Type} {A3 : Type} {A4 : Type} {A5 : Type} {A6 : Type} {A7 : Type} {A8 : Type} {A9 : Type} {A10 : Type} {B : Type} {k : A0 → A1 → A2 → A3 → A4 → A5 → A6 → A7 → A8 → A9 → A10 → B} {a0 : A0} {a1 : A1} {a2 : A2} {a3 : A3} {a4 : A4} {a5 : A5} {a6 : A6} {a7 : A7} {a8 : A8} {a9 : A9} {a10 : A10} {v : A0 × A1 × A2 × A3 × A4 × A5 × A6 × A7 × A8 × A9 × A10} (h : (a0, a1, a2, a3, a4, a5, a6, a7, a8, a9, a10) = v) : lt11 v k = k a0 a1 a2 a3 a4 a5 a6 a7 a8 a9 a10 := by subst h; rfl
def lt12 {A0 : Type} {A1 : Type} {A2 : Type} {A3 : Type} {A4 : Type} {A5 : Type} {A6 : Type} {A7 : Type} {A8 : Type} {A9 : Type} {A10 : Type} {A11 : Type} {B : Type} (v : A0 × A1 × A2 × A3 × A4 × A5 × A6 × A7 × A8 × A9 × A10 × A11) (k : A0 → A1 → A2 → A3 → A4 → A5 → A6 → A7 → A8 → A9 → A10 → A11 → B) : B := k v.1 v.2.1 v.2.2.1 v.2.2.2.1 v.2.2.2.2.1 v.2.2.2.2.2.1 v.2.2.2.2.2.2.1 v.2.2.2.2.2.2.2.1 v.2.2.2.2.2.2.2.2.1 v.2.2.2.2.2.2.2.2.2.1 v.2.2.2.2.2.2.2.2.2.2.1 v.2.2.2.2.2.2.2.2.2.2.2
theorem lt12_e {A0 : Type} {A1 : Type} {A2 : Type} {A3 : Type} {A4 : Type} {A5 : Type} {A6 : Type} {A7 : Type} {A8 : Type} {A9 : Type} {A10 : Type} {A11 : Type} {B : Type} {k : A0 → A1 → A2 → A3 → A4 → A5 → A6 → A7 → A8 → A9 → A10 → A11 → B} {a0 : A0} {a1 : A1} {a2 : A2} {a3 : A3} {a4 : A4} {a5 : A5} {a6 : A6} {a7 : A7} {a8 : A8} {a9 : A9} {a10 : A10} {a11 : A11} {v : A0 × A1 × A2 × A3 × A4 × A5 × A6 × A7 × A8 × A9 × A10 × A11} (h : (a0, a1, a2, a3, a4, a5, a6, a7, a8, a9, a10, a11) = v) : lt12 v k = k a0 a1 a2 a3 a4 a5 a6 a7 a8 a9 a10 a11 := by subst h; rfl
def lt13 {A0 : Type} {A1 : Type} {A2 : Type} {A3 : Type} {A4 : Type} {A5 : Type} {A6 : Type} {A7 : Type} {A8 : Type} {A9 : Type} {A10 : Type} {A11 : Type} {A12 : Type} {B : Type} (v : A0 × A1 × A2 × A3 × A4 × A5 × A6 × A7 × A8 × A9 × A10 × A11 × A12) (k : A0 → A1 → A2 → A3 → A4 → A5 → A6 → A7 → A8 → A9 → A10 → A11 → A12 → B) : B := k v.1 v.2.1 v.2.2.1 v.2.2.2.1 v.2.2.2.2.1 v.2.2.2.2.2.1 v.2.2.2.2.2.2.1 v.2.2.2.2.2.2.2.1 v.2.2.2.2.2.2.2.2.1 v.2.2.2.2.2.2.2.2.2.1 v.2.2.2.2.2.2.2.2.2.2.1 v.2.2.2.2.2.2.2.2.2.2.2.1 v.2.2.2.2.2.2.2.2.2.2.2.2
theorem lt13_e {A0 : Type} {A1 : Type} {A2 : Type} {A3 : Type} {A4 : Type} {A5 : Type} {A6 : Type} {A7 : Type} {A8 : Type} {A9 : Type} {A10 : Type} {A11 : Type} {A12 : Type} {B : Type} {k : A0 → A1 → A2 → A3 → A4 → A5 → A6 → A7 → A8 → A9 → A10 → A11 → A12 → B} {a0 : A0} {a1 : A1} {a2 : A2} {a3 : A3} {a4 : A4} {a5 : A5} {a6 : A6} {a7 : A7} {a8 : A8} {a9 : A9} {a10 : A10} {a11 : A11} {a12 : A12} {v : A0 × A1 × A2 × A3 × A4 × A5 × A6 × A7 × A8 × A9 × A10 × A11 × A12} (h : (a0, a1, a2, a3, a4, a5, a6, a7, a8, a9, a10, a11, a12) = v) : lt13 v k = k a0 a1 a2 a3 a4 a5 a6 a7 a8 a9 a10 a11 a12 := by subst h; rfl
def lt14 {A0 : Type} {A1 : Type} {A2 : Type} {A3 : Type} {A4 : Type} {A5 : Type} {A6 : Type} {A7 : Type} {A8 : Type} {A9 : Type} {A10 : Type} {A11 : Type} {A12 : Type} {A13 : Type} {B : Type} (v : A0 × A1 × A2 × A3 × A4 × A5 × A6 × A7 × A8 × A9 × A10 × A11 × A12 × A13) (k : A0 → A1 → A2 → A3 → A4 → A5 → A6 → A7 → A8 → A9 → A10 → A11 → A12 → A13 → B) : B := k v.1 v.2.1 v.2.2.1 v.2.2.2.1 v.2.2.2.2.1 v.2.2.2.2.2.1 v.2.2.2.2.2.2.1 v.2.2.2.2.2.2.2.1 v.2.2.2.2.2.2.2.2.1 v.2.2.2.2.2.2.2.2.2.1 v.2.2.2.2.2.2.2.2.2.2.1 v.2.2.2.2.2.2.2.2.2.2.2.1 v.2.2.2.2.2.2.2.2.2.2.2.2.1 v.2.2.2.2.2.2.2.2.2.2.2.2.2
theorem lt14_e {A0 : Type} {A1 : Type} {A2 : Type} {A3 : Type} {A4 : Type} {A5 : Type} {A6 : Type} {A7 : Type} {A8 : Type} {A9 : Type} {A10 : Type} {A11 : Type} {A12 : Type} {A13 : Type} {B : Type} {k : A0 → A1 → A2 → A3 → A4 → A5 → A6 → A7 → A8 → A9 → A10 → A11 → A12 → A13 → B} {a0 : A0} {a1 : A1} {a2 : A2} {a3 : A3} {a4 : A4} {a5 : A5} {a6 : A6} {a7 : A7} {a8 : A8} {a9 : A9} {a10 : A10} {a11 : A11} {a12 : A12} {a13 : A13} {v : A0 × A1 × A2 × A3 × A4 × A5 × A6 × A7 × A8 × A9 × A10 × A11 × A12 × A13} (h : (a0, a1, a2, a3, a4, a5, a6, a7, a8, a9, a10, a11, a12, a13) = v) : lt14 v k = k a0 a1 a2 a3 a4 a5 a6 a7 a8 a9 a10 a11 a12 a13 := by subst h; rfl
def lt15 {A0 : Type} {A1 : Type} {A2 : Type} {A3 : Type} {A4 : Type} {A5 : Type} {A6 : Type} {A7 : Type} {A8 : Type} {A9 : Type} {A10 : Type} {A11 : Type} {A12 : Type} {A13 : Type} {A14 : Type} {B : Type} (v : A0 × A1 × A2 × A3 × A4 × A5 × A6 × A7 × A8 × A9 × A10 × A11 × A12 × A13 × A14) (k : A0 → A1 → A2 → A3 → A4 → A5 → A6 → A7 → A8 → A9 → A10 → A11 → A12 → A13 → A14 → B) : B := k v.1 v.2.1 v.2.2.1 v.2.2.2.1 v.2.2.2.2.1 v.2.2.2.2.2.1 v.2.2.2.2.2.2.1 v.2.2.2.2.2.2.2.1 v.2.2.2.2.2.2.2.2.1 v.2.2.2.2.2.2.2.2.2.1 v.2.2.2.2.2.2.2.2.2.2.1 v.2.2.2.2.2.2.2.2.2.2.2.1 v.2.2.2.2.2.2.2.2.2.2.2.2.1 v.2.2.2.2.2.2.2.2.2.2.2.2.2.1 v.2.2.2.2.2.2.2.2.2.2.2.2.2.2
theorem lt15_e {A0 : Type} {A1 : Type} {A2 : Type} {A3 : Type} {A4 : Type} {A5 : Type} {A6 : Type} {A7 : Type} {A8 : Type} {A9 : Type} {A10 : Type} {A11 : Type} {A12 : Type} {A13 : Type} {A14 : Type} {B : Type} {k : A0 → A1 → A2 → A3 → A4 → A5 → A6 → A7 → A8 → A9 → A10 → A11 → A12 → A13 → A14 → B} {a0 : A0} {a1 : A1} {a2 : A2} {a3 : A3} {a4 : A4} {a5 : A5} {a6 : A6} {a7 : A7} {a8 : A8} {a9 : A9} {a10 : A10} {a11 : A11} {a12 : A12} {a13 : A13} {a14 : A14} {v : A0 × A1 × A2 × A3 × A4 × A5 × A6 × A7 × A8 × A9 × A10 × A11 × A12 × A13 × A14} (h : (a0, a1, a2, a3, a4, a5, a6, a7, a8, a9, a10, a11, a12, a13, a14) = v) : lt15 v k = k a0 a1 a2 a3 a4 a5 a6 a7 a8 a9 a10 a11 a12 a13 a14 := by subst h; rfl
def lt16 {A0 : Type} {A1 : Type} {A2 : Type} {A3 : Type} {A4 : Type} {A5 : Type} {A6 : Type} {A7 : Type} {A8 : Type} {A9 : Type} {A10 : Type} {A11 : Type} {A12 : Type} {A13 : Type} {A14 : Type} {A15 : Type} {B : Type} (v : A0 × A1 × A2 × A3 × A4 × A5 × A6 × A7 × A8 × A9 × A10 × A11 × A12 × A13 × A14 × A15) (k : A0 → A1 → A2 → A3 → A4 → A5 → A6 → A7 → A8 → A9 → A10 → A11 → A12 → A13 → A14 → A15 → B) : B := k v.1 v.2.1 v.2.2.1 v.2.2.2.1 v.2.2.2.2.1 v.2.2.2.2.2.1 v.2.2.2.2.2.2.1 v.2.2.2.2.2.2.2.1 v.2.2.2.2.2.2.2.2.1 v.2.2.2.2.2.2.2.2.2.1 v.2.2.2.2.2.2.2.2.2.2.1 v.2.2.2.2.2.2.2.2.2.2.2.1 v.2.2.2.2.2.2.2.2.2.2.2.2.1 v.2.2.2.2.2.2.2.2.2.2.2.2.2.1 v.2.2.2.2.2.2.2.2.2.2.2.2.2.2.1 v.2.2.2.2.2.2.2.2.2.2.2.2.2.2.2
theorem lt16_e {A0 : Type} {A1 : Type} {A2 : Type} {A3 : Type} {A4 : Type} {A5 : Type} {A6 : Type} {A7 : Type} {A8 : Type} {A9 : Type} {A10 : Type} {A11 : Type} {A12 : Type} {A13 : Type} {A14 : Type} {A15 : Type} {B : Type} {k : A0 → A1 → A2 → A3 → A4 → A5 → A6 → A7 → A8 → A9 → A10 → A11 → A12 → A13 → A14 → A15 → B} {a0 : A0} {a1 : A1} {a2 : A2} {a3 : A3} {a4 : A4} {a5 : A5} {a6 : A6} {a7 : A7} {a8 : A8} {a9 : A9} {a10 : A10} {a11 : A11} {a12 : A12} {a13 : A13} {a14 : A14} {a15 : A15} {v : A0 × A1 × A2 × A3 × A4 × A5 × A6 × A7 × A8 × A9 × A10 × A11 × A12 × A13 × A14 × A15} (h : (a0, a1, a2, a3, a4, a5, a6, a7, a8, a9, a10, a11, a12, a13, a14, a15) = v) : lt16 v k = k a0 a1 a2 a3 a4 a5 a6 a7 a8 a9 a10 a11 a12 a13 a14 a15 := by subst h; rfl
def lt17 {A0 : Type} {A1 : Type} {A2 : Type} {A3 : Type} {A4 : Type} {A5 : Type} {A6 : Type} {A7 : Type} {A8 : Type} {A9 : Type} {A10 : Type} {A11 : Type} {A12 : Type} {A13 : Type} {A14 : Type} {A15 : Type} {A16 : Type} {B : Type} (v : A0 × A1 × A2 × A3 × A4 × A5 × A6 × A7 × A8 × A9 × A10 × A11 × A12 × A13 × A14 × A15 × A16) (k : A0 → A1 → A2 → A3 → A4 → A5 → A6 → A7 → A8 → A9 → A10 → A11 → A12 → A13 → A14 → A15 → A16 → B) : B := k v.1 v.2.1 v.2.2.1 v.2.2.2.1 v.2.2.2.2.1 v.2.2.2.2.2.1 v.2.2.2.2.2.2.1 v.2.2.2.2.2.2.2.1 v.2.2.2.2.2.2.2.2.1 v.2.2.2.2.2.2.2.2.2.1 v.2.2.2.2.2.2.2.2.2.2.1 v.2.2.2.2.2.2.2.2.2.2.2.1 v.2.2.2.2.2.2.2.2.2.2.2.2.1 v.2.2.2.2.2.2.2.2.2.2.2.2.2.1 v.2.2.2.2.2.2.2.2.2.2.2.2.2.2.1 v.2.2.2.2.2.2.2.2.2.2.2.2.2.2.2.1 v.2.2.2.2.2.2.2.2.2.2.2.2.2.2.2.2
theorem lt17_e {A0 : Type} {A1 : Type} {A2 : Type} {A3 : Type} {A4 : Type} {A5 : Type} {A6 : Type} {A7 : Type} {A8 : Type} {A9 : Type} {A10 : Type} {A11 : Type} {A12 : Type} {A13 : Type} {A14 : Type} {A15 : Type} {A16 : Type} {B : Type} {k : A0 → A1 → A2 → A3 → A4 → A5 → A6 → A7 → A8 → A9 → A10 → A11 → A12 → A13 → A14 → A15 → A16 → B} {a0 : A0} {a1 : A1} {a2 : A2} {a3 : A3} {a4 : A4} {a5 : A5} {a6 : A6} {a7 : A7} {a8 : A8} {a9 : A9} {a10 : A10} {a11 : A11} {a12 : A12} {a13 : A13} {a14 : A14} {a15 : A15} {a16 : A16} {v : A0 × A1 × A2 × A3 × A4 × A5 × A6 × A7 × A8 × A9 × A10 × A11 × A12 × A13 × A14 × A15 × A16} (h : (a0, a1, a2, a3, a4, a5, a6, a7, a8, a9, a10, a11, a12, a13, a14, a15, a16) = v) : lt17 v k = k a0 a1 a2 a3 a4 a5 a6 a7 a8 a9 a10 a11 a12 a13 a14 a15 a16 := by subst h; rfl
def lt18 {A0 : Type} {A1 : Type} {A2 : Type} {A3 : Type} {A4 : Type} {A5 : Type} {A6 : Type} {A7 : Type} {A8 : Type} {A9 : Type} {A10 : Type} {A11 : Type} {A12 : Type} {A13 : Type} {A14 : Type} {A15 : Type} {A16 : Type} {A17 : Type} {B : Type} (v : A0 × A1 × A2 × A3 × A4 × A5 × A6 × A7 × A8 × A9 × A10 × A11 × A12 × A13 × A14 × A15 × A16 × A17) (k : A0 → A1 → A2 → A3 → A4 → A5 → A6 → A7 → A8 → A9 → A10 → A11 → A12 → A13 → A14 → A15 → A16 → A17 → B) : B := k v.1 v.2.1 v.2.2.1 v.2.2.2.1 v.2.2.2.2.1 v.2.2.2.2.2.1 v.2.2.2.2.2.2.1 v.2.2.2.2.2.2.2.1 v.2.2.2.2.2.2.2.2.1 v.2.2.2.2.2.2.2.2.2.1 v.2.2.2.2.2.2.2.2.2.2.1 v.2.2.2.2.2.2.2.2.2.2.2.1 v.2.2.2.2.2.2.2.2.2.2.2.2.1 v.2.2.2.2.2.2.2.2.2.2.2.2.2.1 v.2.2.2.2.2.2.2.2.2.2.2.2.2.2.1 v.2.2.2.2.2.2.2.2.2.2.2.2.2.2.2.1 v.2.2.2.2.2.2.2.2.2.2.2.2.2.2.2.2.1 v.2.2.2.2.2.2.2.2.2.2.2.2.2.2.2.2.2
theorem lt18_e {A0 : Type} {A1 : Type} {A2 : Type} {A3 : Type} {A4 : Type} {A5 : Type} {A6 : Type} {A7 : Type} {A8 : Type} {A9 : Type} {A10 : Type} {A11 : Type} {A12 : Type} {A13 : Type} {A14 : Type} {A15 : Type} {A16 : Type} {A17 : Type} {B : Type} {k : A0 → A1 → A2 → A3 → A4 → A5 → A6 → A7 → A8 → A9 → A10 → A11 → A12 → A13 → A14 → A15 → A16 → A17 → B} {a0 : A0} {a1 : A1} {a2 : A2} {a3 : A3} {a4 : A4} {a5 : A5} {a6 : A6} {a7 : A7} {a8 : A8} {a9 : A9} {a10 : A10} {a11 : A11} {a12 : A12} {a13 : A13} {a14 : A14} {a15 : A15} {a16 : A16} {a17 : A17} {v : A0 × A1 × A2 × A3 × A4 × A5 × A6 × A7 × A8 × A9 × A10 × A11 × A12 × A13 × A14 × A15 × A16 × A17} (h : (a0, a1, a2, a3, a4, a5, a6, a7, a8, a9, a10, a11, a12, a13, a14, a15, a16, a17) = v) : lt18 v k = k a0 a1 a2 a3 a4 a5 a6 a7 a8 a9 a10 a11 a12 a13 a14 a15 a16 a17 := by subst h; rfl
def lt19 {A0 : Type} {A1 : Type} {A2 : Type} {A3 : Type} {A4 : Type} {A5 : Type} {A6 : Type} {A7 : Type} {A8 : Type} {A9 : Type} {A10 : Type} {A11 : Type} {A12 : Type} {A13 : Type} {A14 : Type} {A15 : Type} {A16 : Type} {A17 : Type} {A18 : Type} {B : Type} (v : A0 × A1 × A2 × A3 × A4 × A5 × A6 × A7 × A8 × A9 × A10 × A11 × A12 × A13 × A14 × A15 × A16 × A17 × A18) (k : A0 → A1 → A2 → A3 → A4 → A5 → A6 → A7 → A8 → A9 → A10 → A11 → A12 → A13 → A14 → A15 → A16 → A17 → A18 → B) : B := k v.1 v.2.1 v.2.2.1 v.2.2.2.1 v.2.2.2.2.1 v.2.2.2.2.2.1 v.2.2.2.2.2.2.1 v.2.2.2.2.2.2.2.1 v.2.2.2.2.2.2.2.2.1 v.2.2.2.2.2.2.2.2.2.1 v.2.2.2.2.2.2.2.2.2.2.1 v.2.2.2.2.2.2.2.2.2.2.2.1 v.2.2.2.2.2.2.2.2.2.2.2.2.1 v.2.2.2.2.2.2.2.2.2.2.2.2.2.1 v.2.2.2.2.2.2.2.2.2.2.2.2.2.2.1 v.2.2.2.2.2.2.2.2.2.2.2.2.2.2.2.1 v.2.2.2.2.2.2.2.2.2.2.2.2.2.2.2.2.1 v.2.2.2.2.2.2.2.2.2.2.2.2.2.2.2.2.2.1 v.2.2.2.2.2.2.2.2.2.2.2.2.2.2.2.2.2.2
theorem lt19_e {A0 : Type} {A1 : Type} {A2 : Type} {A3 : Type} {A4 : Type} {A5 : Type} {A6 : Type} {A7 : Type} {A8 : Type} {A9 : Type} {A10 : Type} {A11 : Type} {A12 : Type} {A13 : Type} {A14 : Type} {A15 : Type} {A16 : Type} {A17 : Type} {A18 : Type} {B : Type} {k : A0 → A1 → A2 → A3 → A4 → A5 → A6 → A7 → A8 → A9 → A10 → A11 → A12 → A13 → A14 → A15 → A16 → A17 → A18 → B} {a0 : A0} {a1 : A1} {a2 : A2} {a3 : A3} {a4 : A4} {a5 : A5} {a6 : A6} {a7 : A7} {a8 : A8} {a9 : A9} {a10 : A10} {a11 : A11} {a12 : A12} {a13 : A13} {a14 : A14} {a15 : A15} {a16 : A16} {a17 : A17} {a18 : A18} {v : A0 × A1 × A2 × A3 × A4 × A5 × A6 × A7 × A8 × A9 × A10 × A11 × A12 × A13 × A14 × A15 × A16 × A17 × A18} (h : (a0, a1, a2, a3, a4, a5, a6, a7, a8, a9, a10, a11, a12, a13, a14, a15, a16, a17, a18) = v) : lt19 v k = k a0 a1 a2 a3 a4 a5 a6 a7 a8 a9 a10 a11 a12 a13 a14 a15 a16 a17 a18 := by subst h; rfl
def lt20 {A0 : Type} {A1 : Type} {A2 : Type} {A3 : Type} {A4 : Type} {A5 : Type} {A6 : Type} {A7 : Type} {A8 : Type} {A9 : Type} {A10 : Type} {A11 : Type} {A12 : Type} {A13 : Type} {A14 : Type} {A15 : Type} {A16 : Type} {A17 : Type} {A18 : Type} {A19 : Type} {B : Type} (v : A0 × A1 × A2 × A3 × A4 × A5 × A6 × A7 × A8 × A9 × A10 × A11 × A12 × A13 × A14 × A15 × A16 × A17 × A18 × A19) (k : A0 → A1 → A2 → A3 → A4 → A5 → A6 → A7 → A8 → A9 → A10 → A11 → A12 → A13 → A14 → A15 → A16 → A17 → A18 → A19 → B) : B := k v.1 v.2.1 v.2.2.1 v.2.2.2.1 v.2.2.2.2.1 v.2.2.2.2.2.1 v.2.2.2.2.2.2.1 v.2.2.2.2.2.2.2.1 v.2.2.2.2.2.2.2.2.1 v.2.2.2.2.2.2.2.2.2.1 v.2.2.2.2.2.2.2.2.2.2.1 v.2.2.2.2.2.2.2.2.2.2.2.1 v.2.2.2.2.2.2.2.2.2.2.2.2.1 v.2.2.2.2.2.2.2.2.2.2.2.2.2.1 v.2.2.2.2.2.2.2.2.2.2.2.2.2.2.1 v.2.2.2.2.2.2.2.2.2.2.2.2.2.2.2.1 v.2.2.2.2.2.2.2.2.2.2.2.2.2.2.2.2.1 v.2.2.2.2.2.2.2.2.2.2.2.2.2.2.2.2.2.1 v.2.2.2.2.2.2.2.2.2.2.2.2.2.2.2.2.2.2.1 v.2.2.2.2.2.2.2.2.2.2.2.2.2.2.2.2.2.2.2
theorem lt20_e {A0 : Type} {A1 : Type} {A2 : Type} {A3 : Type} {A4 : Type} {A5 : Type} {A6 : Type} {A7 : Type} {A8 : Type} {A9 : Type} {A10 : Type} {A11 : Type} {A12 : Type} {A13 : Type} {A14 : Type} {A15 : Type} {A16 : Type} {A17 : Type} {A18 : Type} {A19 : Type} {B : Type} {k : A0 → A1 → A2 → A3 → A4 → A5 → A6 → A7 → A8 → A9 → A10 → A11 → A12 → A13 → A14 → A15 → A16 → A17 → A18 → A19 → B} {a0 : A0} {a1 : A1} {a2 : A2} {a3 : A3} {a4 : A4} {a5 : A5} {a6 : A6} {a7 : A7} {a8 : A8} {a9 : A9} {a10 : A10} {a11 : A11} {a12 : A12} {a13 : A13} {a14 : A14} {a15 : A15} {a16 : A16} {a17 : A17} {a18 : A18} {a19 : A19} {v : A0 × A1 × A2 × A3 × A4 × A5 × A6 × A7 × A8 × A9 × A10 × A11 × A12 × A13 × A14 × A15 × A16 × A17 × A18 × A19} (h : (a0, a1, a2, a3, a4, a5, a6, a7, a8, a9, a10, a11, a12, a13, a14, a15, a16, a17, a18, a19) = v) : lt20 v k = k a0 a1 a2 a3 a4 a5 a6 a7 a8 a9 a10 a11 a12 a13 a14 a15 a16 a17 a18 a19 := by subst h; rfl
def lt21 {A0 : Type} {A1 : Type} {A2 : Type} {A3 : Type} {A4 : Type} {A5 : Type} {A6 : Type} {A7 : Type} {A8 : Type} {A9 : Type} {A10 : Type} {A11 : Type} {A12 : Type} {A13 : Type} {A14 : Type} {A15 : Type} {A16 : Type} {A17 : Type} {A18 : Type} {A19 : Type} {A20 : Type} {B : Type} (v : A0 × A1 × A2 × A3 × A4 × A5 × A6 × A7 × A8 × A9 × A10 × A11 × A12 × A13 × A14 × A15 × A16 × A17 × A18 × A19 × A20) (k : A0 → A1 → A2 → A3 → A4 → A5 → A6 → A7 → A8 → A9 → A10 → A11 → A12 → A13 → A14 → A15 → A16 → A17 → A18 → A19 → A20 → B) : B := k v.1 v.2.1 v.2.2.1 v.2.2.2.1 v.2.2.2.2.1 v.2.2.2.2.2.1 v.2.2.2.2.2.2.1 v.2.2.2.2.2.2.2.1 v.2.2.2.2.2.2.2.2.1 v.2.2.2.2.2.2.2.2.2.1 v.2.2.2.2.2.2.2.2.2.2.1 v.2.2.2.2.2.2.2.2.2.2.2.1 v.2.2.2.2.2.2.2.2.2.2.2.2.1 v.2.2.2.2.2.2.2.2.2.2.2.2.2.1 v.2.2.2.2.2.2.2.2.2.2.2.2.2.2.1 v.2.2.2.2.2.2.2.2.2.2.2.2.2.2.2.1 v.2.2.2.2.2.2.2.2.2.2.2.2.2.2.2.2.1 v.2.2.2.2.2.2.2.2.2.2.2.2.2.2.2.2.2.1 v.2.2.2.2.2.2.2.2.2.2.2.2.2.2.2.2.2.2.1 v.2.2.2.2.2.2.2.2.2.2.2.2.2.2.2.2.2.2.2.1 v.2.2.2.2.2.2.2.2.2.2.2.2.2.2.2.2.2.2.2.2
theorem lt21_e {A0 : Type} {A1 : Type} {A2 : Type} {A3 : Type} {A4 : Type} {A5 : Type} {A6 : Type} {A7 : Type} {A8 : Type} {A9 : Type} {A10 : Type} {A11 : Type} {A12 : Type} {A13 : Type} {A14 : Type} {A15 : Type} {A16 : Type} {A17 : Type} {A18 : Type} {A19 : Type} {A20 : Type} {B : Type} {k : A0 → A1 → A2 → A3 → A4 → A5 → A6 → A7 → A8 → A9 → A10 → A11 → A12 → A13 → A14 → A15 → A16 → A17 → A18 → A19 → A20 → B} {a0 : A0} {a1 : A1} {a2 : A2} {a3 : A3} {a4 : A4} {a5 : A5} {a6 : A6} {a7 : A7} {a8 : A8} {a9 : A9} {a10 : A10} {a11 : A11} {a12 : A12} {a13 : A13} {a14 : A14} {a15 : A15} {a16 : A16} {a17 : A17} {a18 : A18} {a19 : A19} {a20 : A20} {v : A0 × A1 × A2 × A3 × A4 × A5 × A6 × A7 × A8 × A9 × A10 × A11 × A12 × A13 × A14 × A15 × A16 × A17 × A18 × A19 × A20} (h : (a0, a1, a2, a3, a4, a5, a6, a7, a8, a9, a10, a11, a12, a13, a14, a15, a16, a17, a18, a19, a20) = v) : lt21 v k = k a0 a1 a2 a3 a4 a5 a6 a7 a8 a9 a10 a11 a12 a13 a14 a15 a16 a17 a18 a19 a20 := by subst h; rfl
def lt22 {A0 : Type} {A1 : Type} {A2 : Type} {A3 : Type} {A4 : Type} {A5 : Type} {A6 : Type} {A7 : Type} {A8 : Type} {A9 : Type} {A10 : Type} {A11 : Type} {A12 : Type} {A13 : Type} {A14 : Type} {A15 : Type} {A16 : Type} {A17 : Type} {A18 : Type} {A19 : Type} {A20 : Type} {A21 : Type} {B : Type} (v : A0 × A1 × A2 × A3 × A4 × A5 × A6 × A7 × A8 × A9 × A10 × A11 × A12 × A13 × A14 × A15 × A16 × A17 × A18 × A19 × A20 × A21) (k : A0 → A1 → A2 → A3 → A4 → A5 → A6 → A7 → A8 → A9 → A10 → A11 → A12 → A13 → A14 → A15 → A16 → A17 → A18 → A19 → A20 → A21 → B) : B := k v.1 v.2.1 v.2.2.1 v.2.2.2.1 v.2.2.2.2.1 v.2.2.2.2.2.1 v.2.2.2.2.2.2.1 v.2.2.2.2.2.2.2.1 v.2.2.2.2.2.2.2.2.1 v.2.2.2.2.2.2.2.2.2.1 v.2.2.2.2.2.2.2.2.2.2.1 v.2.2.2.2.2.2.2.2.2.2.2.1 v.2.2.2.2.2.2.2.2.2.2.2.2.1 v.2.2.2.2.2.2.2.2.2.2.2.2.2.1 v.2.2.2.2.2.2.2.2.2.2.2.2.2.2.1 v.2.2.2.2.2.2.2.2.2.2.2.2.2.2.2.1 v.2.2.2.2.2.2.2.2.2.2.2.2.2.2.2.2.1 v.2.2.2.2.2.2.2.2.2.2.2.2.2.2.2.2.2.1 v.2.2.2.2.2.2.2.2.2.2.2.2.2.2.2.2.2.2.1 v.2.2.2.2.2.2.2.2.2.2.2.2.2.2.2.2.2.2.2.1 v.2.2.2.2.2.2.2.2.2.2.2.2.2.2.2.2.2.2.2.2.1 v.2.2.2.2.2.2.2.2.2.2.2.2.2.2.2.2.2.2.2.2.2
theorem lt22_e {A0 : Type} {A1 : Type} {A2 : Type} {A3 : Type} {A4 : Type} {A5 : Type} {A6 : Type} {A7 : Type} {A8 : Type} {A9 : Type} {A10 : Type} {A11 : Type} {A12 : Type} {A13 : Type} {A14 : Type} {A15 : Type} {A16 : Type} {A17 : Type} {A18 : Type} {A19 : Type} {A20 : Type} {A21 : Type} {B : Type} {k : A0 → A1 → A2 → A3 → A4 → A5 → A6 → A7 → A8 → A9 → A10 → A11 → A12 → A13 → A14 → A15 → A16 → A17 → A18 → A19 → A20 → A21 → B} {a0 : A0} {a1 : A1} {a2 : A2} {a3 : A3} {a4 : A4} {a5 : A5} {a6 : A6} {a7 : A7} {a8 : A8} {a9 : A9} {a10 : A10} {a11 : A11} {a12 : A12} {a13 : A13} {a14 : A14} {a15 : A15} {a16 : A16} {a17 : A17} {a18 : A18} {a19 : A19} {a20 : A20} {a21 : A21} {v : A0 × A1 × A2 × A3 × A4 × A5 × A6 × A7 × A8 × A9 × A10 × A11 × A12 × A13 × A14 × A15 × A16 × A17 × A18 × A19 × A20 × A21} (h : (a0, a1, a2, a3, a4, a5, a6, a7, a8, a9, a10, a11, a12, a13, a14, a15, a16, a17, a18, a19, a20, a21) = v) : lt22 v k = k a0 a1 a2 a3 a4 a5 a6 a7 a8 a9 a10 a11 a12 a13 a14 a15 a16 a17 a18 a19 a20 a21 := by subst h; rfl
def lt23 {A0 : Type} {A1 : Type} {A2 : Type} {A3 : Type} {A4 : Type} {A5 : Type} {A6 : Type} {A7 : Type} {A8 : Type} {A9 : Type} {A10 : Type} {A11 : Type} {A12 : Type} {A13 : Type} {A14 : Type} {A15 : Type} {A16 : Type} {A17 : Type} {A18 : Type} {A19 : Type} {A20 : Type} {A21 : Type} {A22 : Type} {B : Type} (v : A0 × A1 × A2 × A3 × A4 × A5 × A6 × A7 × A8 × A9 × A10 × A11 × A12 × A13 × A14 × A15 × A16 × A17 × A18 × A19 × A20 × A21 × A22) (k : A0 → A1 → A2 → A3 → A4 → A5 → A6 → A7 → A8 → A9 → A10 → A11 → A12 → A13 → A14 → A15 → A16 → A17 → A18 → A19 → A20 → A21 → A22 → B) : B := k v.1 v.2.1 v.2.2.1 v.2.2.2.1 v.2.2.2.2.1 v.2.2.2.2.2.1 v.2.2.2.2.2.2.1 v.2.2.2.2.2.2.2.1 v.2.2.2.2.2.2.2.2.1 v.2.2.2.2.2.2.2.2.2.1 v.2.2.2.2.2.2.2.2.2.2.1 v.2.2.2.2.2.2.2.2.2.2.2.1 v.2.2.2.2.2.2.2.2.2.2.2.2.1 v.2.2.2.2.2.2.2.2.2.2.2.2.2.1 v.2.2.2.2.2.2.2.2.2.2.2.2.2.2.1 v.2.2.2.2.2.2.2.2.2.2.2.2.2.2.2.1 v.2.2.2.2.2.2.2.2.2.2.2.2.2.2.2.2.1 v.2.2.2.2.2.2.2.2.2.2.2.2.2.2.2.2.2.1 v.2.2.2.2.2.2.2.2.2.2.2.2.2.2.2.2.2.2.1 v.2.2.2.2.2.2.2.2.2.2.2.2.2.2.2.2.2.2.2.1 v.2.2.2.2.2.2.2.2.2.2.2.2.2.2.2.2.2.2.2.2.1 v.2.2.2.2.2.2.2.2.2.2.2.2.2.2.2.2.2.2.2.2.2.1 v.2.2.2.2.2.2.2.2.2.2.2.2.2.2.2.2.2.2.2.2.2.2
theorem lt23_e {A0 : Type} {A1 : Type} {A2 : Type} {A3 : Type} {A4 : Type} {A5 : Type} {A6 : Type} {A7 : Type} {A8 : Type} {A9 : Type} {A10 : Type} {A11 : Type} {A12 : Type} {A13 : Type} {A14 : Type} {A15 : Type} {A16 : Type} {A17 : Type} {A18 : Type} {A19 : Type} {A20 : Type} {A21 : Type} {A22 : Type} {B : Type} {k : A0 → A1 → A2 → A3 → A4 → A5 → A6 → A7 → A8 → A9 → A10 → A11 → A12 → A13 → A14 → A15 → A16 → A17 → A18 → A19 → A20 → A21 → A22 → B} {a0 : A0} {a1 : A1} {a2 : A2} {a3 : A3} {a4 : A4} {a5 : A5} {a6 : A6} {a7 : A7} {a8 : A8} {a9 : A9} {a10 : A10} {a11 : A11} {a12 : A12} {a13 : A13} {a14 : A14} {a15 : A15} {a16 : A16} {a17 : A17} {a18 : A18} {a19 : A19} {a20 : A20} {a21 : A21} {a22 : A22} {v : A0 × A1 × A2 × A3 × A4 × A5 × A6 × A7 × A8 × A9 × A10 × A11 × A12 × A13 × A14 × A15 × A16 × A17 × A18 × A19 × A20 × A21 × A22} (h : (a0, a1, a2, a3, a4, a5, a6, a7, a8, a9, a10, a11, a12, a13, a14, a15, a16, a17, a18, a19, a20, a21, a22) = v) : lt23 v k = k a0 a1 a2 a3 a4 a5 a6 a7 a8 a9 a10 a11 a12 a13 a14 a15 a16 a17 a18 a19 a20 a21 a22 := by subst h; rfl
def lt24 {A0 : Type} {A1 : Type} {A2 : Type} {A3 : Type} {A4 : Type} {A5 : Type} {A6 : Type} {A7 : Type} {A8 : Type} {A9 : Type} {A10 : Type} {A11 : Type} {A12 : Type} {A13 : Type} {A14 : Type} {A15 : Type} {A16 : Type} {A17 : Type} {A18 : Type} {A19 : Type} {A20 : Type} {A21 : Type} {A22 : Type} {A23 : Type} {B : Type} (v : A0 × A1 × A2 × A3 × A4 × A5 × A6 × A7 × A8 × A9 × A10 × A11 × A12 × A13 × A14 × A15 × A16 × A17 × A18 × A19 × A20 × A21 × A22 × A23) (k : A0 → A1 → A2 → A3 → A4 → A5 → A6 → A7 → A8 → A9 → A10 → A11 → A12 → A13 → A14 → A15 → A16 → A17 → A18 → A19 → A20 → A21 → A22 → A23 → B) : B := k v.1 v.2.1 v.2.2.1 v.2.2.2.1 v.2.2.2.2.1 v.2.2.2.2.2.1 v.2.2.2.2.2.2.1 v.2.2.2.2.2.2.2.1 v.2.2.2.2.2.2.2.2.1 v.2.2.2.2.2.2.2.2.2.1 v.2.2.2.2.2.2.2.2.2.2.1 v.2.2.2.2.2.2.2.2.2.2.2.1 v.2.2.2.2.2.2.2.2.2.2.2.2.1 v.2.2.2.2.2.2.2.2.2.2.2.2.2.1 v.2.2.2.2.2.2.2.2.2.2.2.2.2.2.1 v.2.2.2.2.2.2.2.2.2.2.2.2.2.2.2.1 v.2.2.2.2.2.2.2.2.2.2.2.2.2.2.2.2.1 v.2.2.2.2.2.2.2.2.2.2.2.2.2.2.2.2.2.1 v.2.2.2.2.2.2.2.2.2.2.2.2.2.2.2.2.2.2.1 v.2.2.2.2.2.2.2.2.2.2.2.2.2.2.2.2.2.2.2.1 v.2.2.2.2.2.2.2.2.2.2.2.2.2.2.2.2.2.2.2.2.1 v.2.2.2.2.2.2.2.2.2.2.2.2.2.2.2.2.2.2.2.2.2.1 v.2.2.2.2.2.2.2.2.2.2.2.2.2.2.2.2.2.2.2.2.2.2.1 v.2.2.2.2.2.2.2.2.2.2.2.2.2.2.2.2.2.2.2.2.2.2.2
theorem lt24_e {A0 : Type} {A1 : Type} {A2 : Type} {A3 : Type} {A4 : Type} {A5 : Type} {A6 : Type} {A7 : Type} {A8 : Type} {A9 : Type} {A10 : Type} {A11 : Type} {A12 : Type} {A13 : Type} {A14 : Type} {A15 : Type} {A16 : Type} {A17 : Type} {A18 : Type} {A19 : Type} {A20 : Type} {A21 : Type} {A22 : Type} {A23 : Type} {B : Type} {k : A0 → A1 → A2 → A3 → A4 → A5 → A6 → A7 → A8 → A9 → A10 → A11 → A12 → A13 → A14 → A15 → A16 → A17 → A18 → A19 → A20 → A21 → A22 → A23 → B} {a0 : A0} {a1 : A1} {a2 : A2} {a3 : A3} {a4 : A4} {a5 : A5} {a6 : A6} {a7 : A7} {a8 : A8} {a9 : A9} {a10 : A10} {a11 : A11} {a12 : A12} {a13 : A13} {a14 : A14} {a15 : A15} {a16 : A16} {a17 : A17} {a18 : A18} {a19 : A19} {a20 : A20} {a21 : A21} {a22 : A22} {a23 : A23} {v : A0 × A1 × A2 × A3 × A4 × A5 × A6 × A7 × A8 × A9 × A10 × A11 × A12 × A13 × A14 × A15 × A16 × A17 × A18 × A19 × A20 × A21 × A22 × A23} (h : (a0, a1, a2, a3, a4, a5, a6, a7, a8, a9, a10, a11, a12, a13, a14, a15, a16, a17, a18, a19, a20, a21, a22, a23) = v) : lt24 v k = k a0 a1 a2 a3 a4 a5 a6 a7 a8 a9 a10 a11 a12 a13 a14 a15 a16 a17 a18 a19 a20 a21 a22 a23 := by subst h; rfl
def lt25 {A0 : Type} {A1 : Type} {A2 : Type} {A3 : Type} {A4 : Type} {A5 : Type} {A6 : Type} {A7 : Type} {A8 : Type} {A9 : Type} {A10 : Type} {A11 : Type} {A12 : Type} {A13 : Type} {A14 : Type} {A15 : Type} {A16 : Type} {A17 : Type} {A18 : Type} {A19 : Type} {A20 : Type} {A21 : Type} {A22 : Type} {A23 : Type} {A24 : Type} {B : Type} (v : A0 × A1 × A2 × A3 × A4 × A5 × A6 × A7 × A8 × A9 × A10 × A11 × A12 × A13 × A14 × A15 × A16 × A17 × A18 × A19 × A20 × A21 × A22 × A23 × A24) (k : A0 → A1 → A2 → A3 → A4 → A5 → A6 → A7 → A8 → A9 → A10 → A11 → A12 → A13 → A14 → A15 → A16 → A17 → A18 → A19 → A20 → A21 → A22 → A23 → A24 → B) : B := k v.1 v.2.1 v.2.2.1 v.2.2.2.1 v.2.2.2.2.1 v.2.2.2.2.2.1 v.2.2.2.2.2.2.1 v.2.2.2.2.2.2.2.1 v.2.2.2.2.2.2.2.2.1 v.2.2.2.2.2.2.2.2.2.1 v.2.2.2.2.2.2.2.2.2.2.1 v.2.2.2.2.2.2.2.2.2.2.2.1 v.2.2.2.2.2.2.2.2.2.2.2.2.1 v.2.2.2.2.2.2.2.2.2.2.2.2.2.1 v.2.2.2.2.2.2.2.2.2.2.2.2.2.2.1 v.2.2.2.2.2.2.2.2.2.2.2.2.2.2.2.1 v.2.2.2.2.2.2.2.2.2.2.2.2.2.2.2.2.1 v.2.2.2.2.2.2.2.2.2.2.2.2.2.2.2.2.2.1 v.2.2.2.2.2.2.2.2.2.2.2.2.2.2.2.2.2.2.1 v.2.2.2.2.2.2.2.2.2.2.2.2.2.2.2.2.2.2.2.1 v.2.2.2.2.2.2.2.2.2.2.2.2.2.2.2.2.2.2.2.2.1 v.2.2.2.2.2.2.2.2.2.2.2.2.2.2.2.2.2.2.2.2.2.1 v.2.2.2.2.2.2.2.2.2.2.2.2.2.2.2.2.2.2.2.2.2.2.1 v.2.2.2.2.2.2.2.2.2.2.2.2.2.2.2.2.2.2.2.2.2.2.2.1 v.2.2.2.2.2.2.2.2.2.2.2.2.2.2.2.2.2.2.2.2.2.2.2.2
theorem lt25_e {A0 : Type} {A1 : Type} {A2 : Type} {A3 : Type} {A4 : Type} {A5 : Type} {A6 : Type} {A7 : Type} {A8 : Type} {A9 : Type} {A10 : Type} {A11 : Type} {A12 : Type} {A13 : Type} {A14 : Type} {A15 : Type} {A16 : Type} {A17 : Type} {A18 : Type} {A19 : Type} {A20 : Type} {A21 : Type} {A22 : Type} {A23 : Type} {A24 : Type} {B : Type} {k : A0 → A1 → A2 → A3 → A4 → A5 → A6 → A7 → A8 → A9 → A10 → A11 → A12 → A13 → A14 → A15 → A16 → A17 → A18 → A19 → A20 → A21 → A22 → A23 → A24 → B} {a0 : A0} {a1 : A1} {a2 : A2} {a3 : A3} {a4 : A4} {a5 : A5} {a6 : A6} {a7 : A7} {a8 : A8} {a9 : A9} {a10 : A10} {a11 : A11} {a12 : A12} {a13 : A13} {a14 : A14} {a15 : A15} {a16 : A16} {a17 : A17} {a18 : A18} {a19 : A19} {a20 : A20} {a21 : A21} {a22 : A22} {a23 : A23} {a24 : A24} {v : A0 × A1 × A2 × A3 × A4 × A5 × A6 × A7 × A8 × A9 × A10 × A11 × A12 × A13 × A14 × A15 × A16 × A17 × A18 × A19 × A20 × A21 × A22 × A23 × A24} (h : (a0, a1, a2, a3, a4, a5, a6, a7, a8, a9, a10, a11, a12, a13, a14, a15, a16, a17, a18, a19, a20, a21, a22, a23, a24) = v) : lt25 v k = k a0 a1 a2 a3 a4 a5 a6 a7 a8 a9 a10 a11 a12 a13 a14 a15 a16 a17 a18 a19 a20 a21 a22 a23 a24 := by subst h; rfl
def lt26 {A0 : Type} {A1 : Type} {A2 : Type} {A3 : Type} {A4 : Type} {A5 : Type} {A6 : Type} {A7 : Type} {A8 : Type} {A9 : Type} {A10 : Type} {A11 : Type} {A12 : Type} {A13 : Type} {A14 : Type} {A15 : Type} {A16 : Type} {A17 : Type} {A18 : Type} {A19 : Type} {A20 : Type} {A21 : Type} {A22 : Type} {A23 : Type} {A24 : Type} {A25 : Type} {B : Type} (v : A0 × A1 × A2 × A3 × A4 × A5 × A6 × A7 × A8 × A9 × A10 × A11 × A12 × A13 × A14 × A15 × A16 × A17 × A18 × A19 × A20 × A21 × A22 × A23 × A24 × A25) (k : A0 → A1 → A2 → A3 → A4 → A5 → A6 → A7 → A8 → A9 → A10 → A11 → A12 → A13 → A14 → A15 → A16 → A17 → A18 → A19 → A20 → A21 → A22 → A23 → A24 → A25 → B) : B := k v.1 v.2.1 v.2.2.1 v.2.2.2.1 v.2.2.2.2.1 v.2.2.2.2.2.1 v.2.2.2.2.2.2.1 v.2.2.2.2.2.2.2.1 v.2.2.2.2.2.2.2.2.1 v.2.2.2.2.2.2.2.2.2.1 v.2.2.2.2.2.2.2.2.2.2.1 v.2.2.2.2.2.2.2.2.2.2.2.1 v.2.2.2.2.2.2.2.2.2.2.2.2.1 v.2.2.2.2.2.2.2.2.2.2.2.2.2.1 v.2.2.2.2.2.2.2.2.2.2.2.2.2.2.1 v.2.2.2.2.2.2.2.2.2.2.2.2.2.2.2.1 v.2.2.2.2.2.2.2.2.2.2.2.2.2.2.2.2.1 v.2.2.2.2.2.2.2.2.2.2.2.2.2.2.2.2.2.1 v.2.2.2.2.2.2.2.2.2.2.2.2.2.2.2.2.2.2.1 v.2.2.2.2.2.2.2.2.2.2.2.2.2.2.2.2.2.2.2.1 v.2.2.2.2.2.2.2.2.2.2.2.2.2.2.2.2.2.2.2.2.1 v.2.2.2.2.2.2.2.2.2.2.2.2.2.2.2.2.2.2.2.2.2.1 v.2.2.2.2.2.2.2.2.2.2.2.2.2.2.2.2.2.2.2.2.2.2.1 v.2.2.2.2.2.2.2.2.2.2.2.2.2.2.2.2.2.2.2.2.2.2.2.1 v.2.2.2.2.2.2.2.2.2.2.2.2.2.2.2.2.2.2.2.2.2.2.2.2.1 v.2.2.2.2.2.2.2.2.2.2.2.2.2.2.2.2.2.2.2.2.2.2.2.2.2
theorem lt26_e {A0 : Type} {A1 : Type} {A2 : Type} {A3 : Type} {A4 : Type} {A5 : Type} {A6 : Type} {A7 : Type} {A8 : Type} {A9 : Type} {A10 : Type} {A11 : Type} {A12 : Type} {A13 : Type} {A14 : Type} {A15 : Type} {A16 : Type} {A17 : Type} {A18 : Type} {A19 : Type} {A20 : Type} {A21 : Type} {A22 : Type} {A23 : Type} {A24 : Type} {A25 : Type} {B : Type} {k : A0 → A1 → A2 → A3 → A4 → A5 → A6 → A7 → A8 → A9 → A10 → A11 → A12 → A13 → A14 → A15 → A16 → A17 → A18 → A19 → A20 → A21 → A22 → A23 → A24 → A25 → B} {a0 : A0} {a1 : A1} {a2 : A2} {a3 : A3} {a4 : A4} {a5 : A5} {a6 : A6} {a7 : A7} {a8 : A8} {a9 : A9} {a10 : A10} {a11 : A11} {a12 : A12} {a13 : A13} {a14 : A14} {a15 : A15} {a16 : A16} {a17 : A17} {a18 : A18} {a19 : A19} {a20 : A20} {a21 : A21} {a22 : A22} {a23 : A23} {a24 : A24} {a25 : A25} {v : A0 × A1 × A2 × A3 × A4 × A5 × A6 × A7 × A8 × A9 × A10 × A11 × A12 × A13 × A14 × A15 × A16 × A17 × A18 × A19 × A20 × A21 × A22 × A23 × A24 × A25} (h : (a0, a1, a2, a3, a4, a5, a6, a7, a8, a9, a10, a11, a12, a13, a14, a15, a16, a17, a18, a19, a20, a21, a22, a23, a24, a25) = v) : lt26 v k = k a0 a1 a2 a3 a4 a5 a6 a7 a8 a9 a10 a11 a12 a13 a14 a15 a16 a17 a18 a19 a20 a21 a22 a23 a24 a25 := by subst h; rfl
def lo {B : Type} (v : Option Nat) (a : B) (k : Nat → B) : B := match v with
  | none => a
  | some x => k x
theorem lo_n {B : Type} {v : Option Nat} {a : B} {k : Nat → B} (h : v = none) : lo v a k = a := by subst h; rfl
theorem lo_s {B : Type} {v : Option Nat} {a : B} {k : Nat → B} {x : Nat} (h : v = some x) : lo v a k = k x := by subst h; rfl

def y_X6_append_3 (a1 : Int32) : Nat → Int32 → Int32 → (Nat → Int32) → (Int32 × (Nat → Int32))
 | 0, _, _, _ => (0, (fun _ => 0))
 | n3 + 1, y3_0, y3_1, f3_2 =>
  if (y3_0 : Int32) < 0 then (
   (y3_1, f3_2)
  ) else (
   if (940 : Int32) ≤ y3_1 then (
    (y3_1, f3_2)
   ) else (
    lt1 (((a1 : Int32).toUInt32 >>> ((y3_0 : Int32).toUInt32 &&& Int32.toUInt32 31)).toInt32) fun (x_101 : Int32) =>
    lt1 ((x_101 : Int32) &&& 255) fun (x_102 : Int32) =>
    lt1 (upd f3_2 (y3_1 : Int32).toNatClampNeg (x_102 : Int32)) fun (g_104 : Nat → Int32) =>
    lt1 ((y3_1 : Int32) + 1) fun (x_106 : Int32) =>
    lt1 (y3_0 + (-8)) fun (x_109 : Int32) =>
    y_X6_append_3 a1 n3 x_109 x_106 g_104
   )
  )
theorem y_X6_append_3_s (a1 : Int32) (n3 : Nat) (y3_0 : Int32) (y3_1 : Int32) (f3_2 : Nat → Int32) : y_X6_append_3 a1 (n3 + 1) y3_0 y3_1 f3_2 = (
  if (y3_0 : Int32) < 0 then (
   (y3_1, f3_2)
  ) else (
   if (940 : Int32) ≤ y3_1 then (
    (y3_1, f3_2)
   ) else (
    lt1 (((a1 : Int32).toUInt32 >>> ((y3_0 : Int32).toUInt32 &&& Int32.toUInt32 31)).toInt32) fun (x_101 : Int32) =>
    lt1 ((x_101 : Int32) &&& 255) fun (x_102 : Int32) =>
    lt1 (upd f3_2 (y3_1 : Int32).toNatClampNeg (x_102 : Int32)) fun (g_104 : Nat → Int32) =>
    lt1 ((y3_1 : Int32) + 1) fun (x_106 : Int32) =>
    lt1 (y3_0 + (-8)) fun (x_109 : Int32) =>
    y_X6_append_3 a1 n3 x_109 x_106 g_104
   )
  )) := rfl
def y_X6_append (a1 : Int32) (h0_length : Int32) (F_h0_bytes : Nat → Int32)  : Int32 × (Nat → Int32) :=
  y_X6_append_3 a1 2147483673 24 h0_length F_h0_bytes
theorem y_X6_append_s (a1 : Int32) (h0_length : Int32) (F_h0_bytes : Nat → Int32)  : y_X6_append a1 h0_length F_h0_bytes = (
  y_X6_append_3 a1 2147483673 24 h0_length F_h0_bytes) := rfl
def y_X11_feed (a1 : Int32) (a2 : Int32) (a3 : Int32) (a4 : Int32) (a5 : Int32) (h0_tape_length : Int32) (F_h0_tape_bytes : Nat → Int32)  : Int32 × Int32 × (Nat → Int32) :=
  lt1 ((h0_tape_length : Int32) + 20) fun (x_51 : Int32) =>
  if (x_51 : Int32) ≤ 940 then (
   lt2 (y_X6_append a1 h0_tape_length F_h0_tape_bytes) fun (u_60 : Int32) (u_61 : Nat → Int32) =>
   lt2 (y_X6_append a2 u_60 u_61) fun (u_68 : Int32) (u_69 : Nat → Int32) =>
   lt2 (y_X6_append a3 u_68 u_69) fun (u_76 : Int32) (u_77 : Nat → Int32) =>
   lt2 (y_X6_append a4 u_76 u_77) fun (u_84 : Int32) (u_85 : Nat → Int32) =>
   lt2 (y_X6_append a5 u_84 u_85) fun (u_92 : Int32) (u_93 : Nat → Int32) =>
   (u_92, u_92, u_93)
  ) else (
   ((-1), h0_tape_length, F_h0_tape_bytes)
  )
theorem y_X11_feed_s (a1 : Int32) (a2 : Int32) (a3 : Int32) (a4 : Int32) (a5 : Int32) (h0_tape_length : Int32) (F_h0_tape_bytes : Nat → Int32)  : y_X11_feed a1 a2 a3 a4 a5 h0_tape_length F_h0_tape_bytes = (
  lt1 ((h0_tape_length : Int32) + 20) fun (x_51 : Int32) =>
  if (x_51 : Int32) ≤ 940 then (
   lt2 (y_X6_append a1 h0_tape_length F_h0_tape_bytes) fun (u_60 : Int32) (u_61 : Nat → Int32) =>
   lt2 (y_X6_append a2 u_60 u_61) fun (u_68 : Int32) (u_69 : Nat → Int32) =>
   lt2 (y_X6_append a3 u_68 u_69) fun (u_76 : Int32) (u_77 : Nat → Int32) =>
   lt2 (y_X6_append a4 u_76 u_77) fun (u_84 : Int32) (u_85 : Nat → Int32) =>
   lt2 (y_X6_append a5 u_84 u_85) fun (u_92 : Int32) (u_93 : Nat → Int32) =>
   (u_92, u_92, u_93)
  ) else (
   ((-1), h0_tape_length, F_h0_tape_bytes)
  )) := rfl
def y_X5_empty_32  : Nat → Int32 → (Nat → Int32) → ((Nat → Int32))
 | 0, _, _ => (fun _ => 0)
 | n32 + 1, y32_0, f32_1 =>
  if (40 : Int32) ≤ y32_0 then (
   f32_1
  ) else (
   lt1 (upd f32_1 (y32_0 : Int32).toNatClampNeg ((-1) : Int32)) fun (g_72 : Nat → Int32) =>
   lt1 (y32_0 + 1) fun (x_73 : Int32) =>
   y_X5_empty_32 n32 x_73 g_72
  )
theorem y_X5_empty_32_s  (n32 : Nat) (y32_0 : Int32) (f32_1 : Nat → Int32) : y_X5_empty_32 (n32 + 1) y32_0 f32_1 = (
  if (40 : Int32) ≤ y32_0 then (
   f32_1
  ) else (
   lt1 (upd f32_1 (y32_0 : Int32).toNatClampNeg ((-1) : Int32)) fun (g_72 : Nat → Int32) =>
   lt1 (y32_0 + 1) fun (x_73 : Int32) =>
   y_X5_empty_32 n32 x_73 g_72
  )) := rfl
def y_X5_empty (F_h0_tuned : Nat → Int32)  : (Nat → Int32) :=
  y_X5_empty_32 41 0 F_h0_tuned
theorem y_X5_empty_s (F_h0_tuned : Nat → Int32)  : y_X5_empty F_h0_tuned = (
  y_X5_empty_32 41 0 F_h0_tuned) := rfl
def y_X6_isBroken (h0_faultKind : Int32)  : Int32 :=
  if (h0_faultKind : Int32) = 0 then (
   0
  ) else (
   1
  )
theorem y_X6_isBroken_s (h0_faultKind : Int32)  : y_X6_isBroken h0_faultKind = (
  if (h0_faultKind : Int32) = 0 then (
   0
  ) else (
   1
  )) := rfl
def y_X6_readRun_152  (y152_0 : Int64) (y152_1 : Int32) (y152_2 : Int32) (y152_3 : Int32) : Int64 × Int32 × Int32 × Int32 :=
  if (y152_2 : Int32) = 2 then (
   (y152_0, y152_1, y152_2, y152_3)
  ) else (
   (0, y152_1, y152_2, y152_3)
  )
theorem y_X6_readRun_152_s  (y152_0 : Int64) (y152_1 : Int32) (y152_2 : Int32) (y152_3 : Int32) : y_X6_readRun_152 y152_0 y152_1 y152_2 y152_3 = (
  if (y152_2 : Int32) = 2 then (
   (y152_0, y152_1, y152_2, y152_3)
  ) else (
   (0, y152_1, y152_2, y152_3)
  )) := rfl
def y_X6_readRun_147  (y147_0 : Int64) (y147_1 : Int32) (y147_2 : Int32) : Int64 × Int32 × Int32 × Int32 :=
  y_X6_readRun_152 y147_0 y147_1 0 y147_2
theorem y_X6_readRun_147_s  (y147_0 : Int64) (y147_1 : Int32) (y147_2 : Int32) : y_X6_readRun_147 y147_0 y147_1 y147_2 = (
  y_X6_readRun_152 y147_0 y147_1 0 y147_2) := rfl
def y_X6_readRun_130  (y130_0 : Int32) (y130_1 : Int32) (y130_2 : Int64) (y130_3 : Int32) (y130_4 : Int32) : Int64 × Int32 × Int32 × Int32 :=
  if (y130_0 : Int32) = 0 then (
   if (3 : Int32) < y130_1 then (
    y_X6_readRun_147 y130_2 y130_3 y130_4
   ) else (
    y_X6_readRun_152 y130_2 y130_3 3 y130_4
   )
  ) else (
   y_X6_readRun_147 y130_2 y130_3 y130_4
  )
theorem y_X6_readRun_130_s  (y130_0 : Int32) (y130_1 : Int32) (y130_2 : Int64) (y130_3 : Int32) (y130_4 : Int32) : y_X6_readRun_130 y130_0 y130_1 y130_2 y130_3 y130_4 = (
  if (y130_0 : Int32) = 0 then (
   if (3 : Int32) < y130_1 then (
    y_X6_readRun_147 y130_2 y130_3 y130_4
   ) else (
    y_X6_readRun_152 y130_2 y130_3 3 y130_4
   )
  ) else (
   y_X6_readRun_147 y130_2 y130_3 y130_4
  )) := rfl
def y_X6_readRun_112  (y112_0 : Int32) (y112_1 : Int32) (y112_2 : Int64) (y112_3 : Int32) (y112_4 : Int32) : Int64 × Int32 × Int32 × Int32 :=
  if (y112_1 : Int32) = 0 then (
   if (7 : Int32) < y112_0 then (
    y_X6_readRun_130 y112_0 y112_1 y112_2 y112_3 y112_4
   ) else (
    y_X6_readRun_152 y112_2 y112_3 2 y112_4
   )
  ) else (
   y_X6_readRun_130 y112_0 y112_1 y112_2 y112_3 y112_4
  )
theorem y_X6_readRun_112_s  (y112_0 : Int32) (y112_1 : Int32) (y112_2 : Int64) (y112_3 : Int32) (y112_4 : Int32) : y_X6_readRun_112 y112_0 y112_1 y112_2 y112_3 y112_4 = (
  if (y112_1 : Int32) = 0 then (
   if (7 : Int32) < y112_0 then (
    y_X6_readRun_130 y112_0 y112_1 y112_2 y112_3 y112_4
   ) else (
    y_X6_readRun_152 y112_2 y112_3 2 y112_4
   )
  ) else (
   y_X6_readRun_130 y112_0 y112_1 y112_2 y112_3 y112_4
  )) := rfl
def y_X6_readRun_9 (h0_length : Int32) (F_h0_bytes : Nat → Int32) : Nat → Int32 → Int32 → Int64 → Int32 → Int32 → (Int64 × Int32 × Int32 × Int32)
 | 0, _, _, _, _, _ => (0, 0, 0, 0)
 | n9 + 1, y9_0, y9_1, y9_2, y9_3, y9_4 =>
  if (h0_length : Int32) ≤ y9_3 then (
   y_X6_readRun_112 y9_0 y9_1 y9_2 y9_3 y9_4
  ) else (
   lt1 (F_h0_bytes (y9_3 : Int32).toNatClampNeg) fun (x_1748 : Int32) =>
   if (x_1748 : Int32) < 97 then (
    if (x_1748 : Int32) < 48 then (
     y_X6_readRun_112 y9_0 y9_1 y9_2 y9_3 y9_4
    ) else (
     if (57 : Int32) < x_1748 then (
      y_X6_readRun_112 y9_0 y9_1 y9_2 y9_3 y9_4
     ) else (
      lt1 ((y9_4 : Int32) * 10) fun (x_1763 : Int32) =>
      lt1 ((x_1748 : Int32) - 48) fun (x_1764 : Int32) =>
      lt1 ((x_1763 : Int32) + x_1764) fun (x_1767 : Int32) =>
      lt1 (y9_1 + 1) fun (x_1768 : Int32) =>
      lt1 ((y9_3 : Int32) + 1) fun (x_1769 : Int32) =>
      y_X6_readRun_9 h0_length F_h0_bytes n9 y9_0 x_1768 y9_2 x_1769 x_1767
     )
    )
   ) else (
    if (122 : Int32) < x_1748 then (
     y_X6_readRun_112 y9_0 y9_1 y9_2 y9_3 y9_4
    ) else (
     lt1 ((y9_2 : Int64) * 32) fun (x_1779 : Int64) =>
     lt1 ((x_1748 : Int32) - 97) fun (x_1780 : Int32) =>
     lt1 ((x_1780 : Int32) + 1) fun (x_1783 : Int32) =>
     lt1 (x_1783.toInt64) fun (x_1786 : Int64) =>
     lt1 ((x_1779 : Int64) + x_1786) fun (x_1787 : Int64) =>
     lt1 (y9_0 + 1) fun (x_1788 : Int32) =>
     lt1 ((y9_3 : Int32) + 1) fun (x_1789 : Int32) =>
     y_X6_readRun_9 h0_length F_h0_bytes n9 x_1788 y9_1 x_1787 x_1789 y9_4
    )
   )
  )
theorem y_X6_readRun_9_s (h0_length : Int32) (F_h0_bytes : Nat → Int32) (n9 : Nat) (y9_0 : Int32) (y9_1 : Int32) (y9_2 : Int64) (y9_3 : Int32) (y9_4 : Int32) : y_X6_readRun_9 h0_length F_h0_bytes (n9 + 1) y9_0 y9_1 y9_2 y9_3 y9_4 = (
  if (h0_length : Int32) ≤ y9_3 then (
   y_X6_readRun_112 y9_0 y9_1 y9_2 y9_3 y9_4
  ) else (
   lt1 (F_h0_bytes (y9_3 : Int32).toNatClampNeg) fun (x_1748 : Int32) =>
   if (x_1748 : Int32) < 97 then (
    if (x_1748 : Int32) < 48 then (
     y_X6_readRun_112 y9_0 y9_1 y9_2 y9_3 y9_4
    ) else (
     if (57 : Int32) < x_1748 then (
      y_X6_readRun_112 y9_0 y9_1 y9_2 y9_3 y9_4
     ) else (
      lt1 ((y9_4 : Int32) * 10) fun (x_1763 : Int32) =>
      lt1 ((x_1748 : Int32) - 48) fun (x_1764 : Int32) =>
      lt1 ((x_1763 : Int32) + x_1764) fun (x_1767 : Int32) =>
      lt1 (y9_1 + 1) fun (x_1768 : Int32) =>
      lt1 ((y9_3 : Int32) + 1) fun (x_1769 : Int32) =>
      y_X6_readRun_9 h0_length F_h0_bytes n9 y9_0 x_1768 y9_2 x_1769 x_1767
     )
    )
   ) else (
    if (122 : Int32) < x_1748 then (
     y_X6_readRun_112 y9_0 y9_1 y9_2 y9_3 y9_4
    ) else (
     lt1 ((y9_2 : Int64) * 32) fun (x_1779 : Int64) =>
     lt1 ((x_1748 : Int32) - 97) fun (x_1780 : Int32) =>
     lt1 ((x_1780 : Int32) + 1) fun (x_1783 : Int32) =>
     lt1 (x_1783.toInt64) fun (x_1786 : Int64) =>
     lt1 ((x_1779 : Int64) + x_1786) fun (x_1787 : Int64) =>
     lt1 (y9_0 + 1) fun (x_1788 : Int32) =>
     lt1 ((y9_3 : Int32) + 1) fun (x_1789 : Int32) =>
     y_X6_readRun_9 h0_length F_h0_bytes n9 x_1788 y9_1 x_1787 x_1789 y9_4
    )
   )
  )) := rfl
def y_X6_readRun (h0_length : Int32) (h0_letters : Int64) (h0_behind : Int32) (F_h0_bytes : Nat → Int32)  : Int64 × Int32 × Int32 × Int32 :=
  y_X6_readRun_9 h0_length F_h0_bytes 941 0 0 h0_letters h0_behind 0
theorem y_X6_readRun_s (h0_length : Int32) (h0_letters : Int64) (h0_behind : Int32) (F_h0_bytes : Nat → Int32)  : y_X6_readRun h0_length h0_letters h0_behind F_h0_bytes = (
  y_X6_readRun_9 h0_length F_h0_bytes 941 0 0 h0_letters h0_behind 0) := rfl
def y_X6_isSign (a1 : Int32)  : Int32 :=
  if (a1 : Int32) = 59 then (
   1
  ) else (
   if (a1 : Int32) = 60 then (
    1
   ) else (
    if (a1 : Int32) = 61 then (
     1
    ) else (
     if (a1 : Int32) = 62 then (
      1
     ) else (
      if (a1 : Int32) = 40 then (
       1
      ) else (
       if (a1 : Int32) = 41 then (
        1
       ) else (
        0
       )
      )
     )
    )
   )
  )
theorem y_X6_isSign_s (a1 : Int32)  : y_X6_isSign a1 = (
  if (a1 : Int32) = 59 then (
   1
  ) else (
   if (a1 : Int32) = 60 then (
    1
   ) else (
    if (a1 : Int32) = 61 then (
     1
    ) else (
     if (a1 : Int32) = 62 then (
      1
     ) else (
      if (a1 : Int32) = 40 then (
       1
      ) else (
       if (a1 : Int32) = 41 then (
        1
       ) else (
        0
       )
      )
     )
    )
   )
  )) := rfl
def y_X6_advance_104 (h0_number : Int32) (y104_0 : Int32) (y104_1 : Int32) (y104_2 : Int32) : Int64 × Int32 × Int32 × Int32 × Int32 :=
  (0, y104_1, y104_2, y104_0, h0_number)
theorem y_X6_advance_104_s (h0_number : Int32) (y104_0 : Int32) (y104_1 : Int32) (y104_2 : Int32) : y_X6_advance_104 h0_number y104_0 y104_1 y104_2 = (
  (0, y104_1, y104_2, y104_0, h0_number)) := rfl
def y_X6_advance_160  (y160_0 : Int32) (y160_1 : Int64) (y160_2 : Int32) (y160_3 : Int32) (y160_5 : Int32) : Int64 × Int32 × Int32 × Int32 × Int32 :=
  lt1 ((y160_2 : Int32) + 1) fun (x_119 : Int32) =>
  (y160_1, x_119, y160_3, y160_0, y160_5)
theorem y_X6_advance_160_s  (y160_0 : Int32) (y160_1 : Int64) (y160_2 : Int32) (y160_3 : Int32) (y160_5 : Int32) : y_X6_advance_160 y160_0 y160_1 y160_2 y160_3 y160_5 = (
  lt1 ((y160_2 : Int32) + 1) fun (x_119 : Int32) =>
  (y160_1, x_119, y160_3, y160_0, y160_5)) := rfl
def y_X6_advance_69 (h0_length : Int32) (h0_mostBytes : Int32) (h0_number : Int32) (F_h0_bytes : Nat → Int32) (y69_0 : Int32) (y69_1 : Int32) : Int64 × Int32 × Int32 × Int32 × Int32 :=
  if (y69_1 : Int32) < y69_0 then (
   lt4 (y_X6_readRun h0_length 0 y69_1 F_h0_bytes) fun (u_130 : Int64) (u_131 : Int32) (u_132 : Int32) (u_133 : Int32) =>
   if (u_131 : Int32) = y69_1 then (
    lt1 (F_h0_bytes (y69_1 : Int32).toNatClampNeg) fun (x_142 : Int32) =>
    lt1 (y_X6_isSign x_142) fun (r_144 : Int32) =>
    if (r_144 : Int32) = 1 then (
     y_X6_advance_160 x_142 u_130 u_131 y69_1 u_133
    ) else (
     y_X6_advance_160 0 u_130 u_131 y69_1 u_133
    )
   ) else (
    (u_130, u_131, y69_1, u_132, u_133)
   )
  ) else (
   if (h0_length : Int32) ≤ h0_mostBytes then (
    y_X6_advance_104 h0_number 1 y69_1 y69_0
   ) else (
    y_X6_advance_104 h0_number 0 y69_1 y69_0
   )
  )
theorem y_X6_advance_69_s (h0_length : Int32) (h0_mostBytes : Int32) (h0_number : Int32) (F_h0_bytes : Nat → Int32) (y69_0 : Int32) (y69_1 : Int32) : y_X6_advance_69 h0_length h0_mostBytes h0_number F_h0_bytes y69_0 y69_1 = (
  if (y69_1 : Int32) < y69_0 then (
   lt4 (y_X6_readRun h0_length 0 y69_1 F_h0_bytes) fun (u_130 : Int64) (u_131 : Int32) (u_132 : Int32) (u_133 : Int32) =>
   if (u_131 : Int32) = y69_1 then (
    lt1 (F_h0_bytes (y69_1 : Int32).toNatClampNeg) fun (x_142 : Int32) =>
    lt1 (y_X6_isSign x_142) fun (r_144 : Int32) =>
    if (r_144 : Int32) = 1 then (
     y_X6_advance_160 x_142 u_130 u_131 y69_1 u_133
    ) else (
     y_X6_advance_160 0 u_130 u_131 y69_1 u_133
    )
   ) else (
    (u_130, u_131, y69_1, u_132, u_133)
   )
  ) else (
   if (h0_length : Int32) ≤ h0_mostBytes then (
    y_X6_advance_104 h0_number 1 y69_1 y69_0
   ) else (
    y_X6_advance_104 h0_number 0 y69_1 y69_0
   )
  )) := rfl
def y_X6_advance_20 (h0_length : Int32) (h0_mostBytes : Int32) (h0_number : Int32) (F_h0_bytes : Nat → Int32) : Nat → Int32 → Int32 → (Int64 × Int32 × Int32 × Int32 × Int32)
 | 0, _, _ => (0, 0, 0, 0, 0)
 | n20 + 1, y20_0, y20_1 =>
  if (y20_0 : Int32) ≤ y20_1 then (
   y_X6_advance_69 h0_length h0_mostBytes h0_number F_h0_bytes y20_0 y20_1
  ) else (
   lt1 (F_h0_bytes (y20_1 : Int32).toNatClampNeg) fun (x_186 : Int32) =>
   if (x_186 : Int32) = 32 then (
    lt1 ((y20_1 : Int32) + 1) fun (x_193 : Int32) =>
    y_X6_advance_20 h0_length h0_mostBytes h0_number F_h0_bytes n20 y20_0 x_193
   ) else (
    if (x_186 : Int32) = 10 then (
     lt1 ((y20_1 : Int32) + 1) fun (x_201 : Int32) =>
     y_X6_advance_20 h0_length h0_mostBytes h0_number F_h0_bytes n20 y20_0 x_201
    ) else (
     y_X6_advance_69 h0_length h0_mostBytes h0_number F_h0_bytes y20_0 y20_1
    )
   )
  )
theorem y_X6_advance_20_s (h0_length : Int32) (h0_mostBytes : Int32) (h0_number : Int32) (F_h0_bytes : Nat → Int32) (n20 : Nat) (y20_0 : Int32) (y20_1 : Int32) : y_X6_advance_20 h0_length h0_mostBytes h0_number F_h0_bytes (n20 + 1) y20_0 y20_1 = (
  if (y20_0 : Int32) ≤ y20_1 then (
   y_X6_advance_69 h0_length h0_mostBytes h0_number F_h0_bytes y20_0 y20_1
  ) else (
   lt1 (F_h0_bytes (y20_1 : Int32).toNatClampNeg) fun (x_186 : Int32) =>
   if (x_186 : Int32) = 32 then (
    lt1 ((y20_1 : Int32) + 1) fun (x_193 : Int32) =>
    y_X6_advance_20 h0_length h0_mostBytes h0_number F_h0_bytes n20 y20_0 x_193
   ) else (
    if (x_186 : Int32) = 10 then (
     lt1 ((y20_1 : Int32) + 1) fun (x_201 : Int32) =>
     y_X6_advance_20 h0_length h0_mostBytes h0_number F_h0_bytes n20 y20_0 x_201
    ) else (
     y_X6_advance_69 h0_length h0_mostBytes h0_number F_h0_bytes y20_0 y20_1
    )
   )
  )) := rfl
def y_X6_advance (h0_length : Int32) (h0_faultKind : Int32) (h0_letters : Int64) (h0_mostBytes : Int32) (h0_behind : Int32) (h0_at : Int32) (h0_kind : Int32) (h0_number : Int32) (F_h0_bytes : Nat → Int32)  : Int64 × Int32 × Int32 × Int32 × Int32 :=
  lt1 (y_X6_isBroken h0_faultKind) fun (r_204 : Int32) =>
  if (r_204 : Int32) = 0 then (
   lt1 (if (h0_mostBytes : Int32) < h0_length then h0_mostBytes else h0_length) fun (x_212 : Int32) =>
   y_X6_advance_20 h0_length h0_mostBytes h0_number F_h0_bytes 941 x_212 h0_behind
  ) else (
   (h0_letters, h0_behind, h0_at, h0_kind, h0_number)
  )
theorem y_X6_advance_s (h0_length : Int32) (h0_faultKind : Int32) (h0_letters : Int64) (h0_mostBytes : Int32) (h0_behind : Int32) (h0_at : Int32) (h0_kind : Int32) (h0_number : Int32) (F_h0_bytes : Nat → Int32)  : y_X6_advance h0_length h0_faultKind h0_letters h0_mostBytes h0_behind h0_at h0_kind h0_number F_h0_bytes = (
  lt1 (y_X6_isBroken h0_faultKind) fun (r_204 : Int32) =>
  if (r_204 : Int32) = 0 then (
   lt1 (if (h0_mostBytes : Int32) < h0_length then h0_mostBytes else h0_length) fun (x_212 : Int32) =>
   y_X6_advance_20 h0_length h0_mostBytes h0_number F_h0_bytes 941 x_212 h0_behind
  ) else (
   (h0_letters, h0_behind, h0_at, h0_kind, h0_number)
  )) := rfl
def y_X6_begin (a1 : Int32) (h0_length : Int32) (h0_letters : Int64) (h0_at : Int32) (h0_kind : Int32) (h0_number : Int32) (F_h0_bytes : Nat → Int32)  : Int64 × Int32 × Int32 × Int32 × Int32 :=
  lt5 (y_X6_advance h0_length 0 h0_letters a1 0 h0_at h0_kind h0_number F_h0_bytes) fun (u_13 : Int64) (u_14 : Int32) (u_15 : Int32) (u_16 : Int32) (u_17 : Int32) =>
  (u_13, u_14, u_15, u_16, u_17)
theorem y_X6_begin_s (a1 : Int32) (h0_length : Int32) (h0_letters : Int64) (h0_at : Int32) (h0_kind : Int32) (h0_number : Int32) (F_h0_bytes : Nat → Int32)  : y_X6_begin a1 h0_length h0_letters h0_at h0_kind h0_number F_h0_bytes = (
  lt5 (y_X6_advance h0_length 0 h0_letters a1 0 h0_at h0_kind h0_number F_h0_bytes) fun (u_13 : Int64) (u_14 : Int32) (u_15 : Int32) (u_16 : Int32) (u_17 : Int32) =>
  (u_13, u_14, u_15, u_16, u_17)) := rfl
def y_X6_goesOn (h0_faultKind : Int32) (h0_kind : Int32)  : Int32 :=
  lt1 (y_X6_isBroken h0_faultKind) fun (r_14 : Int32) =>
  if (r_14 : Int32) = 0 then (
   if (h0_kind : Int32) = 1 then (
    0
   ) else (
    1
   )
  ) else (
   0
  )
theorem y_X6_goesOn_s (h0_faultKind : Int32) (h0_kind : Int32)  : y_X6_goesOn h0_faultKind h0_kind = (
  lt1 (y_X6_isBroken h0_faultKind) fun (r_14 : Int32) =>
  if (r_14 : Int32) = 0 then (
   if (h0_kind : Int32) = 1 then (
    0
   ) else (
    1
   )
  ) else (
   0
  )) := rfl
def y_X6_sees (h0_letters : Int64) (h0_kind : Int32) (kw1 : Nat)  : Int32 :=
  if (h0_kind : Int32) = 2 then (
   lt1 (wdl.getD kw1 0) fun (x_20 : Int64) =>
   lt1 (lg_cmp (h0_letters : Int64) x_20) fun (x_21 : Int32) =>
   if (x_21 : Int32) = 0 then (
    1
   ) else (
    0
   )
  ) else (
   0
  )
theorem y_X6_sees_s (h0_letters : Int64) (h0_kind : Int32) (kw1 : Nat)  : y_X6_sees h0_letters h0_kind kw1 = (
  if (h0_kind : Int32) = 2 then (
   lt1 (wdl.getD kw1 0) fun (x_20 : Int64) =>
   lt1 (lg_cmp (h0_letters : Int64) x_20) fun (x_21 : Int32) =>
   if (x_21 : Int32) = 0 then (
    1
   ) else (
    0
   )
  ) else (
   0
  )) := rfl
def y_X6_fail (a1 : Int32) (h0_faultKind : Int32) (h0_faultAt : Int32) (h0_letters : Int64) (h0_at : Int32) (h0_kind : Int32)  : Int32 × Int32 × Int64 × Int32 :=
  lt1 (y_X6_isBroken h0_faultKind) fun (r_9 : Int32) =>
  if (r_9 : Int32) = 0 then (
   (a1, h0_at, 0, 0)
  ) else (
   (h0_faultKind, h0_faultAt, h0_letters, h0_kind)
  )
theorem y_X6_fail_s (a1 : Int32) (h0_faultKind : Int32) (h0_faultAt : Int32) (h0_letters : Int64) (h0_at : Int32) (h0_kind : Int32)  : y_X6_fail a1 h0_faultKind h0_faultAt h0_letters h0_at h0_kind = (
  lt1 (y_X6_isBroken h0_faultKind) fun (r_9 : Int32) =>
  if (r_9 : Int32) = 0 then (
   (a1, h0_at, 0, 0)
  ) else (
   (h0_faultKind, h0_faultAt, h0_letters, h0_kind)
  )) := rfl
def y_X5_placeOf_10_3 (a2 : Int32) (a3 : Int64) (F_r1 : Nat → Int64) : Nat → Int32 → (Int32)
 | 0, _ => 0
 | n3 + 1, y3_0 =>
  if (a2 : Int32) ≤ y3_0 then (
   (-1)
  ) else (
   lt1 (F_r1 (y3_0 : Int32).toNatClampNeg) fun (x_89 : Int64) =>
   lt1 (lg_cmp (x_89 : Int64) a3) fun (x_90 : Int32) =>
   if (x_90 : Int32) = 0 then (
    y3_0
   ) else (
    lt1 (y3_0 + 1) fun (x_93 : Int32) =>
    y_X5_placeOf_10_3 a2 a3 F_r1 n3 x_93
   )
  )
theorem y_X5_placeOf_10_3_s (a2 : Int32) (a3 : Int64) (F_r1 : Nat → Int64) (n3 : Nat) (y3_0 : Int32) : y_X5_placeOf_10_3 a2 a3 F_r1 (n3 + 1) y3_0 = (
  if (a2 : Int32) ≤ y3_0 then (
   (-1)
  ) else (
   lt1 (F_r1 (y3_0 : Int32).toNatClampNeg) fun (x_89 : Int64) =>
   lt1 (lg_cmp (x_89 : Int64) a3) fun (x_90 : Int32) =>
   if (x_90 : Int32) = 0 then (
    y3_0
   ) else (
    lt1 (y3_0 + 1) fun (x_93 : Int32) =>
    y_X5_placeOf_10_3 a2 a3 F_r1 n3 x_93
   )
  )) := rfl
def y_X5_placeOf_10 (a2 : Int32) (a3 : Int64) (F_r1 : Nat → Int64)  : Int32 :=
  y_X5_placeOf_10_3 a2 a3 F_r1 11 0
theorem y_X5_placeOf_10_s (a2 : Int32) (a3 : Int64) (F_r1 : Nat → Int64)  : y_X5_placeOf_10 a2 a3 F_r1 = (
  y_X5_placeOf_10_3 a2 a3 F_r1 11 0) := rfl
def y_X5_placeOf_4_3 (a2 : Int32) (a3 : Int64) (F_r1 : Nat → Int64) : Nat → Int32 → (Int32)
 | 0, _ => 0
 | n3 + 1, y3_0 =>
  if (a2 : Int32) ≤ y3_0 then (
   (-1)
  ) else (
   lt1 (F_r1 (y3_0 : Int32).toNatClampNeg) fun (x_89 : Int64) =>
   lt1 (lg_cmp (x_89 : Int64) a3) fun (x_90 : Int32) =>
   if (x_90 : Int32) = 0 then (
    y3_0
   ) else (
    lt1 (y3_0 + 1) fun (x_93 : Int32) =>
    y_X5_placeOf_4_3 a2 a3 F_r1 n3 x_93
   )
  )
theorem y_X5_placeOf_4_3_s (a2 : Int32) (a3 : Int64) (F_r1 : Nat → Int64) (n3 : Nat) (y3_0 : Int32) : y_X5_placeOf_4_3 a2 a3 F_r1 (n3 + 1) y3_0 = (
  if (a2 : Int32) ≤ y3_0 then (
   (-1)
  ) else (
   lt1 (F_r1 (y3_0 : Int32).toNatClampNeg) fun (x_89 : Int64) =>
   lt1 (lg_cmp (x_89 : Int64) a3) fun (x_90 : Int32) =>
   if (x_90 : Int32) = 0 then (
    y3_0
   ) else (
    lt1 (y3_0 + 1) fun (x_93 : Int32) =>
    y_X5_placeOf_4_3 a2 a3 F_r1 n3 x_93
   )
  )) := rfl
def y_X5_placeOf_4 (a2 : Int32) (a3 : Int64) (F_r1 : Nat → Int64)  : Int32 :=
  y_X5_placeOf_4_3 a2 a3 F_r1 5 0
theorem y_X5_placeOf_4_s (a2 : Int32) (a3 : Int64) (F_r1 : Nat → Int64)  : y_X5_placeOf_4 a2 a3 F_r1 = (
  y_X5_placeOf_4_3 a2 a3 F_r1 5 0) := rfl
def y_X5_placeOf_5_3 (a2 : Int32) (a3 : Int64) (F_r1 : Nat → Int64) : Nat → Int32 → (Int32)
 | 0, _ => 0
 | n3 + 1, y3_0 =>
  if (a2 : Int32) ≤ y3_0 then (
   (-1)
  ) else (
   lt1 (F_r1 (y3_0 : Int32).toNatClampNeg) fun (x_89 : Int64) =>
   lt1 (lg_cmp (x_89 : Int64) a3) fun (x_90 : Int32) =>
   if (x_90 : Int32) = 0 then (
    y3_0
   ) else (
    lt1 (y3_0 + 1) fun (x_93 : Int32) =>
    y_X5_placeOf_5_3 a2 a3 F_r1 n3 x_93
   )
  )
theorem y_X5_placeOf_5_3_s (a2 : Int32) (a3 : Int64) (F_r1 : Nat → Int64) (n3 : Nat) (y3_0 : Int32) : y_X5_placeOf_5_3 a2 a3 F_r1 (n3 + 1) y3_0 = (
  if (a2 : Int32) ≤ y3_0 then (
   (-1)
  ) else (
   lt1 (F_r1 (y3_0 : Int32).toNatClampNeg) fun (x_89 : Int64) =>
   lt1 (lg_cmp (x_89 : Int64) a3) fun (x_90 : Int32) =>
   if (x_90 : Int32) = 0 then (
    y3_0
   ) else (
    lt1 (y3_0 + 1) fun (x_93 : Int32) =>
    y_X5_placeOf_5_3 a2 a3 F_r1 n3 x_93
   )
  )) := rfl
def y_X5_placeOf_5 (a2 : Int32) (a3 : Int64) (F_r1 : Nat → Int64)  : Int32 :=
  y_X5_placeOf_5_3 a2 a3 F_r1 6 0
theorem y_X5_placeOf_5_s (a2 : Int32) (a3 : Int64) (F_r1 : Nat → Int64)  : y_X5_placeOf_5 a2 a3 F_r1 = (
  y_X5_placeOf_5_3 a2 a3 F_r1 6 0) := rfl
def y_X5_jurorNamed (a1 : Int64) (h0_jurors : Int32) (F_h0_jurorName : Nat → Int64)  : Int32 :=
  lt1 (y_X5_placeOf_10 h0_jurors a1 F_h0_jurorName) fun (r_5 : Int32) =>
  r_5
theorem y_X5_jurorNamed_s (a1 : Int64) (h0_jurors : Int32) (F_h0_jurorName : Nat → Int64)  : y_X5_jurorNamed a1 h0_jurors F_h0_jurorName = (
  lt1 (y_X5_placeOf_10 h0_jurors a1 F_h0_jurorName) fun (r_5 : Int32) =>
  r_5) := rfl
def y_X5_floorNamed (a1 : Int64) (h0_floors : Int32) (F_h0_floorName : Nat → Int64)  : Int32 :=
  lt1 (y_X5_placeOf_4 h0_floors a1 F_h0_floorName) fun (r_5 : Int32) =>
  r_5
theorem y_X5_floorNamed_s (a1 : Int64) (h0_floors : Int32) (F_h0_floorName : Nat → Int64)  : y_X5_floorNamed a1 h0_floors F_h0_floorName = (
  lt1 (y_X5_placeOf_4 h0_floors a1 F_h0_floorName) fun (r_5 : Int32) =>
  r_5) := rfl
def y_X5_caseNamed (a1 : Int64) (h0_cases : Int32) (F_h0_caseName : Nat → Int64)  : Int32 :=
  lt1 (y_X5_placeOf_5 h0_cases a1 F_h0_caseName) fun (r_5 : Int32) =>
  r_5
theorem y_X5_caseNamed_s (a1 : Int64) (h0_cases : Int32) (F_h0_caseName : Nat → Int64)  : y_X5_caseNamed a1 h0_cases F_h0_caseName = (
  lt1 (y_X5_placeOf_5 h0_cases a1 F_h0_caseName) fun (r_5 : Int32) =>
  r_5) := rfl
def y_X5_isTold (a1 : Int64) (h0_jurors : Int32) (h0_floors : Int32) (h0_cases : Int32) (F_h0_jurorName : Nat → Int64) (F_h0_floorName : Nat → Int64) (F_h0_caseName : Nat → Int64)  : Int32 :=
  lt1 (y_X5_jurorNamed a1 h0_jurors F_h0_jurorName) fun (r_28 : Int32) =>
  if (r_28 : Int32) = (-1) then (
   lt1 (y_X5_floorNamed a1 h0_floors F_h0_floorName) fun (r_37 : Int32) =>
   if (r_37 : Int32) = (-1) then (
    lt1 (y_X5_caseNamed a1 h0_cases F_h0_caseName) fun (r_46 : Int32) =>
    if (r_46 : Int32) = (-1) then (
     0
    ) else (
     1
    )
   ) else (
    1
   )
  ) else (
   1
  )
theorem y_X5_isTold_s (a1 : Int64) (h0_jurors : Int32) (h0_floors : Int32) (h0_cases : Int32) (F_h0_jurorName : Nat → Int64) (F_h0_floorName : Nat → Int64) (F_h0_caseName : Nat → Int64)  : y_X5_isTold a1 h0_jurors h0_floors h0_cases F_h0_jurorName F_h0_floorName F_h0_caseName = (
  lt1 (y_X5_jurorNamed a1 h0_jurors F_h0_jurorName) fun (r_28 : Int32) =>
  if (r_28 : Int32) = (-1) then (
   lt1 (y_X5_floorNamed a1 h0_floors F_h0_floorName) fun (r_37 : Int32) =>
   if (r_37 : Int32) = (-1) then (
    lt1 (y_X5_caseNamed a1 h0_cases F_h0_caseName) fun (r_46 : Int32) =>
    if (r_46 : Int32) = (-1) then (
     0
    ) else (
     1
    )
   ) else (
    1
   )
  ) else (
   1
  )) := rfl
def y_X6_seesName_12 (h0_letters : Int64) : Nat → Int32 → (Int32)
 | 0, _ => 0
 | n12 + 1, y12_0 =>
  if (26 : Int32) ≤ y12_0 then (
   1
  ) else (
   lt1 (wdl.getD y12_0.toNatClampNeg 0) fun (x_123 : Int64) =>
   lt1 (lg_cmp (h0_letters : Int64) x_123) fun (x_124 : Int32) =>
   if (x_124 : Int32) = 0 then (
    0
   ) else (
    lt1 (y12_0 + 1) fun (x_127 : Int32) =>
    y_X6_seesName_12 h0_letters n12 x_127
   )
  )
theorem y_X6_seesName_12_s (h0_letters : Int64) (n12 : Nat) (y12_0 : Int32) : y_X6_seesName_12 h0_letters (n12 + 1) y12_0 = (
  if (26 : Int32) ≤ y12_0 then (
   1
  ) else (
   lt1 (wdl.getD y12_0.toNatClampNeg 0) fun (x_123 : Int64) =>
   lt1 (lg_cmp (h0_letters : Int64) x_123) fun (x_124 : Int32) =>
   if (x_124 : Int32) = 0 then (
    0
   ) else (
    lt1 (y12_0 + 1) fun (x_127 : Int32) =>
    y_X6_seesName_12 h0_letters n12 x_127
   )
  )) := rfl
def y_X6_seesName (h0_letters : Int64) (h0_kind : Int32)  : Int32 :=
  if (h0_kind : Int32) = 2 then (
   y_X6_seesName_12 h0_letters 941 0
  ) else (
   0
  )
theorem y_X6_seesName_s (h0_letters : Int64) (h0_kind : Int32)  : y_X6_seesName h0_letters h0_kind = (
  if (h0_kind : Int32) = 2 then (
   y_X6_seesName_12 h0_letters 941 0
  ) else (
   0
  )) := rfl
def y_X6_takeNewName_br (a1 : Int32) (h0_letters : Int64) (h0_kind : Int32)  : Int64 :=
  lt1 (y_X6_seesName h0_letters h0_kind) fun (r_19 : Int32) =>
  if (r_19 : Int32) = 0 then (
   0
  ) else (
   if (a1 : Int32) = 0 then (
    h0_letters
   ) else (
    0
   )
  )
theorem y_X6_takeNewName_br_s (a1 : Int32) (h0_letters : Int64) (h0_kind : Int32)  : y_X6_takeNewName_br a1 h0_letters h0_kind = (
  lt1 (y_X6_seesName h0_letters h0_kind) fun (r_19 : Int32) =>
  if (r_19 : Int32) = 0 then (
   0
  ) else (
   if (a1 : Int32) = 0 then (
    h0_letters
   ) else (
    0
   )
  )) := rfl
def y_X6_takeNewName (a1 : Int32) (h0_length : Int32) (h0_faultKind : Int32) (h0_faultAt : Int32) (h0_letters : Int64) (h0_mostBytes : Int32) (h0_behind : Int32) (h0_at : Int32) (h0_kind : Int32) (h0_number : Int32) (F_h0_bytes : Nat → Int32)  : Int64 × Int32 × Int32 × Int64 × Int32 × Int32 × Int32 × Int32 :=
  lt1 (y_X6_seesName h0_letters h0_kind) fun (r_41 : Int32) =>
  if (r_41 : Int32) = 0 then (
   lt4 (y_X6_fail 1 h0_faultKind h0_faultAt h0_letters h0_at h0_kind) fun (u_50 : Int32) (u_51 : Int32) (u_52 : Int64) (u_53 : Int32) =>
   (0, u_50, u_51, u_52, h0_behind, h0_at, u_53, h0_number)
  ) else (
   if (a1 : Int32) = 0 then (
    lt5 (y_X6_advance h0_length h0_faultKind h0_letters h0_mostBytes h0_behind h0_at h0_kind h0_number F_h0_bytes) fun (u_63 : Int64) (u_64 : Int32) (u_65 : Int32) (u_66 : Int32) (u_67 : Int32) =>
    (h0_letters, h0_faultKind, h0_faultAt, u_63, u_64, u_65, u_66, u_67)
   ) else (
    lt4 (y_X6_fail 3 h0_faultKind h0_faultAt h0_letters h0_at h0_kind) fun (u_74 : Int32) (u_75 : Int32) (u_76 : Int64) (u_77 : Int32) =>
    (0, u_74, u_75, u_76, h0_behind, h0_at, u_77, h0_number)
   )
  )
theorem y_X6_takeNewName_s (a1 : Int32) (h0_length : Int32) (h0_faultKind : Int32) (h0_faultAt : Int32) (h0_letters : Int64) (h0_mostBytes : Int32) (h0_behind : Int32) (h0_at : Int32) (h0_kind : Int32) (h0_number : Int32) (F_h0_bytes : Nat → Int32)  : y_X6_takeNewName a1 h0_length h0_faultKind h0_faultAt h0_letters h0_mostBytes h0_behind h0_at h0_kind h0_number F_h0_bytes = (
  lt1 (y_X6_seesName h0_letters h0_kind) fun (r_41 : Int32) =>
  if (r_41 : Int32) = 0 then (
   lt4 (y_X6_fail 1 h0_faultKind h0_faultAt h0_letters h0_at h0_kind) fun (u_50 : Int32) (u_51 : Int32) (u_52 : Int64) (u_53 : Int32) =>
   (0, u_50, u_51, u_52, h0_behind, h0_at, u_53, h0_number)
  ) else (
   if (a1 : Int32) = 0 then (
    lt5 (y_X6_advance h0_length h0_faultKind h0_letters h0_mostBytes h0_behind h0_at h0_kind h0_number F_h0_bytes) fun (u_63 : Int64) (u_64 : Int32) (u_65 : Int32) (u_66 : Int32) (u_67 : Int32) =>
    (h0_letters, h0_faultKind, h0_faultAt, u_63, u_64, u_65, u_66, u_67)
   ) else (
    lt4 (y_X6_fail 3 h0_faultKind h0_faultAt h0_letters h0_at h0_kind) fun (u_74 : Int32) (u_75 : Int32) (u_76 : Int64) (u_77 : Int32) =>
    (0, u_74, u_75, u_76, h0_behind, h0_at, u_77, h0_number)
   )
  )) := rfl
def y_X6_takeNumber_br_31   : Int32 :=
  0
theorem y_X6_takeNumber_br_31_s   : y_X6_takeNumber_br_31 = (
  0) := rfl
def y_X6_takeNumber_br (a1 : Int32) (a2 : Int32) (h0_kind : Int32) (h0_number : Int32)  : Int32 :=
  if (h0_kind : Int32) = 3 then (
   if (h0_number : Int32) < a1 then (
    y_X6_takeNumber_br_31
   ) else (
    if (h0_number : Int32) ≤ a2 then (
     h0_number
    ) else (
     y_X6_takeNumber_br_31
    )
   )
  ) else (
   0
  )
theorem y_X6_takeNumber_br_s (a1 : Int32) (a2 : Int32) (h0_kind : Int32) (h0_number : Int32)  : y_X6_takeNumber_br a1 a2 h0_kind h0_number = (
  if (h0_kind : Int32) = 3 then (
   if (h0_number : Int32) < a1 then (
    y_X6_takeNumber_br_31
   ) else (
    if (h0_number : Int32) ≤ a2 then (
     h0_number
    ) else (
     y_X6_takeNumber_br_31
    )
   )
  ) else (
   0
  )) := rfl
def y_X6_takeNumber_31 (h0_faultKind : Int32) (h0_faultAt : Int32) (h0_letters : Int64) (h0_behind : Int32) (h0_at : Int32) (h0_kind : Int32) (h0_number : Int32)  : Int32 × Int32 × Int32 × Int64 × Int32 × Int32 × Int32 × Int32 :=
  lt4 (y_X6_fail 2 h0_faultKind h0_faultAt h0_letters h0_at h0_kind) fun (u_47 : Int32) (u_48 : Int32) (u_49 : Int64) (u_50 : Int32) =>
  (0, u_47, u_48, u_49, h0_behind, h0_at, u_50, h0_number)
theorem y_X6_takeNumber_31_s (h0_faultKind : Int32) (h0_faultAt : Int32) (h0_letters : Int64) (h0_behind : Int32) (h0_at : Int32) (h0_kind : Int32) (h0_number : Int32)  : y_X6_takeNumber_31 h0_faultKind h0_faultAt h0_letters h0_behind h0_at h0_kind h0_number = (
  lt4 (y_X6_fail 2 h0_faultKind h0_faultAt h0_letters h0_at h0_kind) fun (u_47 : Int32) (u_48 : Int32) (u_49 : Int64) (u_50 : Int32) =>
  (0, u_47, u_48, u_49, h0_behind, h0_at, u_50, h0_number)) := rfl
def y_X6_takeNumber (a1 : Int32) (a2 : Int32) (h0_length : Int32) (h0_faultKind : Int32) (h0_faultAt : Int32) (h0_letters : Int64) (h0_mostBytes : Int32) (h0_behind : Int32) (h0_at : Int32) (h0_kind : Int32) (h0_number : Int32) (F_h0_bytes : Nat → Int32)  : Int32 × Int32 × Int32 × Int64 × Int32 × Int32 × Int32 × Int32 :=
  if (h0_kind : Int32) = 3 then (
   if (h0_number : Int32) < a1 then (
    y_X6_takeNumber_31 h0_faultKind h0_faultAt h0_letters h0_behind h0_at h0_kind h0_number
   ) else (
    if (h0_number : Int32) ≤ a2 then (
     lt5 (y_X6_advance h0_length h0_faultKind h0_letters h0_mostBytes h0_behind h0_at h0_kind h0_number F_h0_bytes) fun (u_68 : Int64) (u_69 : Int32) (u_70 : Int32) (u_71 : Int32) (u_72 : Int32) =>
     (h0_number, h0_faultKind, h0_faultAt, u_68, u_69, u_70, u_71, u_72)
    ) else (
     y_X6_takeNumber_31 h0_faultKind h0_faultAt h0_letters h0_behind h0_at h0_kind h0_number
    )
   )
  ) else (
   lt4 (y_X6_fail 1 h0_faultKind h0_faultAt h0_letters h0_at h0_kind) fun (u_81 : Int32) (u_82 : Int32) (u_83 : Int64) (u_84 : Int32) =>
   (0, u_81, u_82, u_83, h0_behind, h0_at, u_84, h0_number)
  )
theorem y_X6_takeNumber_s (a1 : Int32) (a2 : Int32) (h0_length : Int32) (h0_faultKind : Int32) (h0_faultAt : Int32) (h0_letters : Int64) (h0_mostBytes : Int32) (h0_behind : Int32) (h0_at : Int32) (h0_kind : Int32) (h0_number : Int32) (F_h0_bytes : Nat → Int32)  : y_X6_takeNumber a1 a2 h0_length h0_faultKind h0_faultAt h0_letters h0_mostBytes h0_behind h0_at h0_kind h0_number F_h0_bytes = (
  if (h0_kind : Int32) = 3 then (
   if (h0_number : Int32) < a1 then (
    y_X6_takeNumber_31 h0_faultKind h0_faultAt h0_letters h0_behind h0_at h0_kind h0_number
   ) else (
    if (h0_number : Int32) ≤ a2 then (
     lt5 (y_X6_advance h0_length h0_faultKind h0_letters h0_mostBytes h0_behind h0_at h0_kind h0_number F_h0_bytes) fun (u_68 : Int64) (u_69 : Int32) (u_70 : Int32) (u_71 : Int32) (u_72 : Int32) =>
     (h0_number, h0_faultKind, h0_faultAt, u_68, u_69, u_70, u_71, u_72)
    ) else (
     y_X6_takeNumber_31 h0_faultKind h0_faultAt h0_letters h0_behind h0_at h0_kind h0_number
    )
   )
  ) else (
   lt4 (y_X6_fail 1 h0_faultKind h0_faultAt h0_letters h0_at h0_kind) fun (u_81 : Int32) (u_82 : Int32) (u_83 : Int64) (u_84 : Int32) =>
   (0, u_81, u_82, u_83, h0_behind, h0_at, u_84, h0_number)
  )) := rfl
def y_X6_takeIf_br (h0_letters : Int64) (h0_kind : Int32) (kw1 : Nat)  : Int32 :=
  lt1 (y_X6_sees h0_letters h0_kind kw1) fun (r_10 : Int32) =>
  if (r_10 : Int32) = 0 then (
   0
  ) else (
   1
  )
theorem y_X6_takeIf_br_s (h0_letters : Int64) (h0_kind : Int32) (kw1 : Nat)  : y_X6_takeIf_br h0_letters h0_kind kw1 = (
  lt1 (y_X6_sees h0_letters h0_kind kw1) fun (r_10 : Int32) =>
  if (r_10 : Int32) = 0 then (
   0
  ) else (
   1
  )) := rfl
def y_X6_takeIf (h0_length : Int32) (h0_faultKind : Int32) (h0_letters : Int64) (h0_mostBytes : Int32) (h0_behind : Int32) (h0_at : Int32) (h0_kind : Int32) (h0_number : Int32) (F_h0_bytes : Nat → Int32) (kw1 : Nat)  : Int32 × Int64 × Int32 × Int32 × Int32 × Int32 :=
  lt1 (y_X6_sees h0_letters h0_kind kw1) fun (r_18 : Int32) =>
  if (r_18 : Int32) = 0 then (
   (0, h0_letters, h0_behind, h0_at, h0_kind, h0_number)
  ) else (
   lt5 (y_X6_advance h0_length h0_faultKind h0_letters h0_mostBytes h0_behind h0_at h0_kind h0_number F_h0_bytes) fun (u_27 : Int64) (u_28 : Int32) (u_29 : Int32) (u_30 : Int32) (u_31 : Int32) =>
   (1, u_27, u_28, u_29, u_30, u_31)
  )
theorem y_X6_takeIf_s (h0_length : Int32) (h0_faultKind : Int32) (h0_letters : Int64) (h0_mostBytes : Int32) (h0_behind : Int32) (h0_at : Int32) (h0_kind : Int32) (h0_number : Int32) (F_h0_bytes : Nat → Int32) (kw1 : Nat)  : y_X6_takeIf h0_length h0_faultKind h0_letters h0_mostBytes h0_behind h0_at h0_kind h0_number F_h0_bytes kw1 = (
  lt1 (y_X6_sees h0_letters h0_kind kw1) fun (r_18 : Int32) =>
  if (r_18 : Int32) = 0 then (
   (0, h0_letters, h0_behind, h0_at, h0_kind, h0_number)
  ) else (
   lt5 (y_X6_advance h0_length h0_faultKind h0_letters h0_mostBytes h0_behind h0_at h0_kind h0_number F_h0_bytes) fun (u_27 : Int64) (u_28 : Int32) (u_29 : Int32) (u_30 : Int32) (u_31 : Int32) =>
   (1, u_27, u_28, u_29, u_30, u_31)
  )) := rfl
def y_X6_seesSign (a1 : Int32) (h0_kind : Int32)  : Int32 :=
  if (h0_kind : Int32) = a1 then (
   1
  ) else (
   0
  )
theorem y_X6_seesSign_s (a1 : Int32) (h0_kind : Int32)  : y_X6_seesSign a1 h0_kind = (
  if (h0_kind : Int32) = a1 then (
   1
  ) else (
   0
  )) := rfl
def y_X6_takeSign (a1 : Int32) (h0_length : Int32) (h0_faultKind : Int32) (h0_faultAt : Int32) (h0_letters : Int64) (h0_mostBytes : Int32) (h0_behind : Int32) (h0_at : Int32) (h0_kind : Int32) (h0_number : Int32) (F_h0_bytes : Nat → Int32)  : Int32 × Int32 × Int64 × Int32 × Int32 × Int32 × Int32 :=
  lt1 (y_X6_seesSign a1 h0_kind) fun (r_28 : Int32) =>
  if (r_28 : Int32) = 0 then (
   lt4 (y_X6_fail 1 h0_faultKind h0_faultAt h0_letters h0_at h0_kind) fun (u_38 : Int32) (u_39 : Int32) (u_40 : Int64) (u_41 : Int32) =>
   (u_38, u_39, u_40, h0_behind, h0_at, u_41, h0_number)
  ) else (
   lt5 (y_X6_advance h0_length h0_faultKind h0_letters h0_mostBytes h0_behind h0_at h0_kind h0_number F_h0_bytes) fun (u_47 : Int64) (u_48 : Int32) (u_49 : Int32) (u_50 : Int32) (u_51 : Int32) =>
   (h0_faultKind, h0_faultAt, u_47, u_48, u_49, u_50, u_51)
  )
theorem y_X6_takeSign_s (a1 : Int32) (h0_length : Int32) (h0_faultKind : Int32) (h0_faultAt : Int32) (h0_letters : Int64) (h0_mostBytes : Int32) (h0_behind : Int32) (h0_at : Int32) (h0_kind : Int32) (h0_number : Int32) (F_h0_bytes : Nat → Int32)  : y_X6_takeSign a1 h0_length h0_faultKind h0_faultAt h0_letters h0_mostBytes h0_behind h0_at h0_kind h0_number F_h0_bytes = (
  lt1 (y_X6_seesSign a1 h0_kind) fun (r_28 : Int32) =>
  if (r_28 : Int32) = 0 then (
   lt4 (y_X6_fail 1 h0_faultKind h0_faultAt h0_letters h0_at h0_kind) fun (u_38 : Int32) (u_39 : Int32) (u_40 : Int64) (u_41 : Int32) =>
   (u_38, u_39, u_40, h0_behind, h0_at, u_41, h0_number)
  ) else (
   lt5 (y_X6_advance h0_length h0_faultKind h0_letters h0_mostBytes h0_behind h0_at h0_kind h0_number F_h0_bytes) fun (u_47 : Int64) (u_48 : Int32) (u_49 : Int32) (u_50 : Int32) (u_51 : Int32) =>
   (h0_faultKind, h0_faultAt, u_47, u_48, u_49, u_50, u_51)
  )) := rfl
def y_X2_readJuror (h0_draft_jurors : Int32) (h0_draft_floors : Int32) (h0_draft_cases : Int32) (h0_draft_seated : Int32) (h0_reader_length : Int32) (h0_reader_faultKind : Int32) (h0_reader_faultAt : Int32) (h0_reader_letters : Int64) (h0_reader_mostBytes : Int32) (h0_reader_behind : Int32) (h0_reader_at : Int32) (h0_reader_kind : Int32) (h0_reader_number : Int32) (F_h0_reader_bytes : Nat → Int32) (F_h0_draft_jurorName : Nat → Int64) (F_h0_draft_floorName : Nat → Int64) (F_h0_draft_caseName : Nat → Int64) (F_h0_draft_pitch : Nat → Int32) (F_h0_draft_length : Nat → Int32) (F_h0_draft_hands : Nat → Int32)  : Int32 × Int32 × Int32 × Int32 × Int64 × Int32 × Int32 × Int32 × Int32 × (Nat → Int64) × (Nat → Int32) × (Nat → Int32) × (Nat → Int32) :=
  if (h0_draft_jurors : Int32) < 10 then (
   lt5 (y_X6_advance h0_reader_length h0_reader_faultKind h0_reader_letters h0_reader_mostBytes h0_reader_behind h0_reader_at h0_reader_kind h0_reader_number F_h0_reader_bytes) fun (u_404 : Int64) (u_405 : Int32) (u_406 : Int32) (u_407 : Int32) (u_408 : Int32) =>
   lt1 (y_X5_isTold u_404 h0_draft_jurors h0_draft_floors h0_draft_cases F_h0_draft_jurorName F_h0_draft_floorName F_h0_draft_caseName) fun (r_412 : Int32) =>
   if (r_412 : Int32) = 1 then (
    lt8 (y_X6_takeNewName 1 h0_reader_length h0_reader_faultKind h0_reader_faultAt u_404 h0_reader_mostBytes u_405 u_406 u_407 u_408 F_h0_reader_bytes) fun (r_418 : Int64) (u_420 : Int32) (u_421 : Int32) (u_422 : Int64) (u_423 : Int32) (u_424 : Int32) (u_425 : Int32) (u_426 : Int32) =>
    lt8 (y_X6_takeNumber 1 60 h0_reader_length u_420 u_421 u_422 h0_reader_mostBytes u_423 u_424 u_425 u_426 F_h0_reader_bytes) fun (r_432 : Int32) (u_434 : Int32) (u_435 : Int32) (u_436 : Int64) (u_437 : Int32) (u_438 : Int32) (u_439 : Int32) (u_440 : Int32) =>
    lt8 (y_X6_takeNumber 1 20 h0_reader_length u_434 u_435 u_436 h0_reader_mostBytes u_437 u_438 u_439 u_440 F_h0_reader_bytes) fun (r_446 : Int32) (u_448 : Int32) (u_449 : Int32) (u_450 : Int64) (u_451 : Int32) (u_452 : Int32) (u_453 : Int32) (u_454 : Int32) =>
    lt8 (y_X6_takeNumber 0 12 h0_reader_length u_448 u_449 u_450 h0_reader_mostBytes u_451 u_452 u_453 u_454 F_h0_reader_bytes) fun (r_460 : Int32) (u_462 : Int32) (u_463 : Int32) (u_464 : Int64) (u_465 : Int32) (u_466 : Int32) (u_467 : Int32) (u_468 : Int32) =>
    lt6 (y_X6_takeIf h0_reader_length u_462 u_464 h0_reader_mostBytes u_465 u_466 u_467 u_468 F_h0_reader_bytes 1) fun (r_474 : Int32) (u_476 : Int64) (u_477 : Int32) (u_478 : Int32) (u_479 : Int32) (u_480 : Int32) =>
    if (r_474 : Int32) = 0 then (
     lt7 (y_X6_takeSign 59 h0_reader_length u_462 u_463 u_476 h0_reader_mostBytes u_477 u_478 u_479 u_480 F_h0_reader_bytes) fun (u_499 : Int32) (u_500 : Int32) (u_501 : Int64) (u_502 : Int32) (u_503 : Int32) (u_504 : Int32) (u_505 : Int32) =>
     lt1 (y_X6_isBroken u_499) fun (r_511 : Int32) =>
     if (r_511 : Int32) = 0 then (
      lt1 (vp_updL F_h0_draft_jurorName (h0_draft_jurors : Int32).toNatClampNeg (r_418 : Int64)) fun (g_519 : Nat → Int64) =>
      lt1 (upd F_h0_draft_pitch (h0_draft_jurors : Int32).toNatClampNeg (r_432 : Int32)) fun (g_520 : Nat → Int32) =>
      lt1 (upd F_h0_draft_length (h0_draft_jurors : Int32).toNatClampNeg (r_446 : Int32)) fun (g_521 : Nat → Int32) =>
      lt1 (upd F_h0_draft_hands (h0_draft_jurors : Int32).toNatClampNeg (r_460 : Int32)) fun (g_522 : Nat → Int32) =>
      lt1 ((h0_draft_jurors : Int32) + 1) fun (x_523 : Int32) =>
      (x_523, h0_draft_seated, u_499, u_500, u_501, u_502, u_503, u_504, u_505, g_519, g_520, g_521, g_522)
     ) else (
      (h0_draft_jurors, h0_draft_seated, u_499, u_500, u_501, u_502, u_503, u_504, u_505, F_h0_draft_jurorName, F_h0_draft_pitch, F_h0_draft_length, F_h0_draft_hands)
     )
    ) else (
     lt7 (y_X6_takeSign 59 h0_reader_length u_462 u_463 u_476 h0_reader_mostBytes u_477 u_478 u_479 u_480 F_h0_reader_bytes) fun (u_528 : Int32) (u_529 : Int32) (u_530 : Int64) (u_531 : Int32) (u_532 : Int32) (u_533 : Int32) (u_534 : Int32) =>
     lt1 (y_X6_isBroken u_528) fun (r_540 : Int32) =>
     if (r_540 : Int32) = 0 then (
      lt1 (vp_updL F_h0_draft_jurorName (h0_draft_jurors : Int32).toNatClampNeg (r_418 : Int64)) fun (g_548 : Nat → Int64) =>
      lt1 (upd F_h0_draft_pitch (h0_draft_jurors : Int32).toNatClampNeg (r_432 : Int32)) fun (g_549 : Nat → Int32) =>
      lt1 (upd F_h0_draft_length (h0_draft_jurors : Int32).toNatClampNeg (r_446 : Int32)) fun (g_550 : Nat → Int32) =>
      lt1 (upd F_h0_draft_hands (h0_draft_jurors : Int32).toNatClampNeg (r_460 : Int32)) fun (g_551 : Nat → Int32) =>
      lt1 ((1 : Int32) <<< (h0_draft_jurors &&& 31)) fun (x_552 : Int32) =>
      lt1 ((h0_draft_seated : Int32) ||| x_552) fun (x_554 : Int32) =>
      lt1 ((h0_draft_jurors : Int32) + 1) fun (x_556 : Int32) =>
      (x_556, x_554, u_528, u_529, u_530, u_531, u_532, u_533, u_534, g_548, g_549, g_550, g_551)
     ) else (
      (h0_draft_jurors, h0_draft_seated, u_528, u_529, u_530, u_531, u_532, u_533, u_534, F_h0_draft_jurorName, F_h0_draft_pitch, F_h0_draft_length, F_h0_draft_hands)
     )
    )
   ) else (
    lt8 (y_X6_takeNewName 0 h0_reader_length h0_reader_faultKind h0_reader_faultAt u_404 h0_reader_mostBytes u_405 u_406 u_407 u_408 F_h0_reader_bytes) fun (r_559 : Int64) (u_561 : Int32) (u_562 : Int32) (u_563 : Int64) (u_564 : Int32) (u_565 : Int32) (u_566 : Int32) (u_567 : Int32) =>
    lt8 (y_X6_takeNumber 1 60 h0_reader_length u_561 u_562 u_563 h0_reader_mostBytes u_564 u_565 u_566 u_567 F_h0_reader_bytes) fun (r_573 : Int32) (u_575 : Int32) (u_576 : Int32) (u_577 : Int64) (u_578 : Int32) (u_579 : Int32) (u_580 : Int32) (u_581 : Int32) =>
    lt8 (y_X6_takeNumber 1 20 h0_reader_length u_575 u_576 u_577 h0_reader_mostBytes u_578 u_579 u_580 u_581 F_h0_reader_bytes) fun (r_587 : Int32) (u_589 : Int32) (u_590 : Int32) (u_591 : Int64) (u_592 : Int32) (u_593 : Int32) (u_594 : Int32) (u_595 : Int32) =>
    lt8 (y_X6_takeNumber 0 12 h0_reader_length u_589 u_590 u_591 h0_reader_mostBytes u_592 u_593 u_594 u_595 F_h0_reader_bytes) fun (r_601 : Int32) (u_603 : Int32) (u_604 : Int32) (u_605 : Int64) (u_606 : Int32) (u_607 : Int32) (u_608 : Int32) (u_609 : Int32) =>
    lt6 (y_X6_takeIf h0_reader_length u_603 u_605 h0_reader_mostBytes u_606 u_607 u_608 u_609 F_h0_reader_bytes 1) fun (r_615 : Int32) (u_617 : Int64) (u_618 : Int32) (u_619 : Int32) (u_620 : Int32) (u_621 : Int32) =>
    if (r_615 : Int32) = 0 then (
     lt7 (y_X6_takeSign 59 h0_reader_length u_603 u_604 u_617 h0_reader_mostBytes u_618 u_619 u_620 u_621 F_h0_reader_bytes) fun (u_640 : Int32) (u_641 : Int32) (u_642 : Int64) (u_643 : Int32) (u_644 : Int32) (u_645 : Int32) (u_646 : Int32) =>
     lt1 (y_X6_isBroken u_640) fun (r_652 : Int32) =>
     if (r_652 : Int32) = 0 then (
      lt1 (vp_updL F_h0_draft_jurorName (h0_draft_jurors : Int32).toNatClampNeg (r_559 : Int64)) fun (g_660 : Nat → Int64) =>
      lt1 (upd F_h0_draft_pitch (h0_draft_jurors : Int32).toNatClampNeg (r_573 : Int32)) fun (g_661 : Nat → Int32) =>
      lt1 (upd F_h0_draft_length (h0_draft_jurors : Int32).toNatClampNeg (r_587 : Int32)) fun (g_662 : Nat → Int32) =>
      lt1 (upd F_h0_draft_hands (h0_draft_jurors : Int32).toNatClampNeg (r_601 : Int32)) fun (g_663 : Nat → Int32) =>
      lt1 ((h0_draft_jurors : Int32) + 1) fun (x_664 : Int32) =>
      (x_664, h0_draft_seated, u_640, u_641, u_642, u_643, u_644, u_645, u_646, g_660, g_661, g_662, g_663)
     ) else (
      (h0_draft_jurors, h0_draft_seated, u_640, u_641, u_642, u_643, u_644, u_645, u_646, F_h0_draft_jurorName, F_h0_draft_pitch, F_h0_draft_length, F_h0_draft_hands)
     )
    ) else (
     lt7 (y_X6_takeSign 59 h0_reader_length u_603 u_604 u_617 h0_reader_mostBytes u_618 u_619 u_620 u_621 F_h0_reader_bytes) fun (u_669 : Int32) (u_670 : Int32) (u_671 : Int64) (u_672 : Int32) (u_673 : Int32) (u_674 : Int32) (u_675 : Int32) =>
     lt1 (y_X6_isBroken u_669) fun (r_681 : Int32) =>
     if (r_681 : Int32) = 0 then (
      lt1 (vp_updL F_h0_draft_jurorName (h0_draft_jurors : Int32).toNatClampNeg (r_559 : Int64)) fun (g_689 : Nat → Int64) =>
      lt1 (upd F_h0_draft_pitch (h0_draft_jurors : Int32).toNatClampNeg (r_573 : Int32)) fun (g_690 : Nat → Int32) =>
      lt1 (upd F_h0_draft_length (h0_draft_jurors : Int32).toNatClampNeg (r_587 : Int32)) fun (g_691 : Nat → Int32) =>
      lt1 (upd F_h0_draft_hands (h0_draft_jurors : Int32).toNatClampNeg (r_601 : Int32)) fun (g_692 : Nat → Int32) =>
      lt1 ((1 : Int32) <<< (h0_draft_jurors &&& 31)) fun (x_693 : Int32) =>
      lt1 ((h0_draft_seated : Int32) ||| x_693) fun (x_695 : Int32) =>
      lt1 ((h0_draft_jurors : Int32) + 1) fun (x_697 : Int32) =>
      (x_697, x_695, u_669, u_670, u_671, u_672, u_673, u_674, u_675, g_689, g_690, g_691, g_692)
     ) else (
      (h0_draft_jurors, h0_draft_seated, u_669, u_670, u_671, u_672, u_673, u_674, u_675, F_h0_draft_jurorName, F_h0_draft_pitch, F_h0_draft_length, F_h0_draft_hands)
     )
    )
   )
  ) else (
   lt4 (y_X6_fail 4 h0_reader_faultKind h0_reader_faultAt h0_reader_letters h0_reader_at h0_reader_kind) fun (u_704 : Int32) (u_705 : Int32) (u_706 : Int64) (u_707 : Int32) =>
   lt1 (y_X5_isTold u_706 h0_draft_jurors h0_draft_floors h0_draft_cases F_h0_draft_jurorName F_h0_draft_floorName F_h0_draft_caseName) fun (r_713 : Int32) =>
   if (r_713 : Int32) = 1 then (
    lt1 (y_X6_takeNewName_br 1 u_706 u_707) fun (r_719 : Int64) =>
    lt1 (y_X6_takeNumber_br 1 60 u_707 h0_reader_number) fun (r_722 : Int32) =>
    lt1 (y_X6_takeNumber_br 1 20 u_707 h0_reader_number) fun (r_725 : Int32) =>
    lt1 (y_X6_takeNumber_br 0 12 u_707 h0_reader_number) fun (r_728 : Int32) =>
    lt1 (y_X6_takeIf_br u_706 u_707 1) fun (r_731 : Int32) =>
    if (r_731 : Int32) = 0 then (
     lt1 (y_X6_isBroken u_704) fun (r_740 : Int32) =>
     if (r_740 : Int32) = 0 then (
      (0, 0, 0, 0, 0, 0, 0, 0, 0, (fun _ => 0), (fun _ => 0), (fun _ => 0), (fun _ => 0))
     ) else (
      (h0_draft_jurors, h0_draft_seated, u_704, u_705, u_706, h0_reader_behind, h0_reader_at, u_707, h0_reader_number, F_h0_draft_jurorName, F_h0_draft_pitch, F_h0_draft_length, F_h0_draft_hands)
     )
    ) else (
     lt1 (y_X6_isBroken u_704) fun (r_750 : Int32) =>
     if (r_750 : Int32) = 0 then (
      (0, 0, 0, 0, 0, 0, 0, 0, 0, (fun _ => 0), (fun _ => 0), (fun _ => 0), (fun _ => 0))
     ) else (
      (h0_draft_jurors, h0_draft_seated, u_704, u_705, u_706, h0_reader_behind, h0_reader_at, u_707, h0_reader_number, F_h0_draft_jurorName, F_h0_draft_pitch, F_h0_draft_length, F_h0_draft_hands)
     )
    )
   ) else (
    lt1 (y_X6_takeNewName_br 0 u_706 u_707) fun (r_758 : Int64) =>
    lt1 (y_X6_takeNumber_br 1 60 u_707 h0_reader_number) fun (r_761 : Int32) =>
    lt1 (y_X6_takeNumber_br 1 20 u_707 h0_reader_number) fun (r_764 : Int32) =>
    lt1 (y_X6_takeNumber_br 0 12 u_707 h0_reader_number) fun (r_767 : Int32) =>
    lt1 (y_X6_takeIf_br u_706 u_707 1) fun (r_770 : Int32) =>
    if (r_770 : Int32) = 0 then (
     lt1 (y_X6_isBroken u_704) fun (r_779 : Int32) =>
     if (r_779 : Int32) = 0 then (
      (0, 0, 0, 0, 0, 0, 0, 0, 0, (fun _ => 0), (fun _ => 0), (fun _ => 0), (fun _ => 0))
     ) else (
      (h0_draft_jurors, h0_draft_seated, u_704, u_705, u_706, h0_reader_behind, h0_reader_at, u_707, h0_reader_number, F_h0_draft_jurorName, F_h0_draft_pitch, F_h0_draft_length, F_h0_draft_hands)
     )
    ) else (
     lt1 (y_X6_isBroken u_704) fun (r_789 : Int32) =>
     if (r_789 : Int32) = 0 then (
      (0, 0, 0, 0, 0, 0, 0, 0, 0, (fun _ => 0), (fun _ => 0), (fun _ => 0), (fun _ => 0))
     ) else (
      (h0_draft_jurors, h0_draft_seated, u_704, u_705, u_706, h0_reader_behind, h0_reader_at, u_707, h0_reader_number, F_h0_draft_jurorName, F_h0_draft_pitch, F_h0_draft_length, F_h0_draft_hands)
     )
    )
   )
  )
theorem y_X2_readJuror_s (h0_draft_jurors : Int32) (h0_draft_floors : Int32) (h0_draft_cases : Int32) (h0_draft_seated : Int32) (h0_reader_length : Int32) (h0_reader_faultKind : Int32) (h0_reader_faultAt : Int32) (h0_reader_letters : Int64) (h0_reader_mostBytes : Int32) (h0_reader_behind : Int32) (h0_reader_at : Int32) (h0_reader_kind : Int32) (h0_reader_number : Int32) (F_h0_reader_bytes : Nat → Int32) (F_h0_draft_jurorName : Nat → Int64) (F_h0_draft_floorName : Nat → Int64) (F_h0_draft_caseName : Nat → Int64) (F_h0_draft_pitch : Nat → Int32) (F_h0_draft_length : Nat → Int32) (F_h0_draft_hands : Nat → Int32)  : y_X2_readJuror h0_draft_jurors h0_draft_floors h0_draft_cases h0_draft_seated h0_reader_length h0_reader_faultKind h0_reader_faultAt h0_reader_letters h0_reader_mostBytes h0_reader_behind h0_reader_at h0_reader_kind h0_reader_number F_h0_reader_bytes F_h0_draft_jurorName F_h0_draft_floorName F_h0_draft_caseName F_h0_draft_pitch F_h0_draft_length F_h0_draft_hands = (
  if (h0_draft_jurors : Int32) < 10 then (
   lt5 (y_X6_advance h0_reader_length h0_reader_faultKind h0_reader_letters h0_reader_mostBytes h0_reader_behind h0_reader_at h0_reader_kind h0_reader_number F_h0_reader_bytes) fun (u_404 : Int64) (u_405 : Int32) (u_406 : Int32) (u_407 : Int32) (u_408 : Int32) =>
   lt1 (y_X5_isTold u_404 h0_draft_jurors h0_draft_floors h0_draft_cases F_h0_draft_jurorName F_h0_draft_floorName F_h0_draft_caseName) fun (r_412 : Int32) =>
   if (r_412 : Int32) = 1 then (
    lt8 (y_X6_takeNewName 1 h0_reader_length h0_reader_faultKind h0_reader_faultAt u_404 h0_reader_mostBytes u_405 u_406 u_407 u_408 F_h0_reader_bytes) fun (r_418 : Int64) (u_420 : Int32) (u_421 : Int32) (u_422 : Int64) (u_423 : Int32) (u_424 : Int32) (u_425 : Int32) (u_426 : Int32) =>
    lt8 (y_X6_takeNumber 1 60 h0_reader_length u_420 u_421 u_422 h0_reader_mostBytes u_423 u_424 u_425 u_426 F_h0_reader_bytes) fun (r_432 : Int32) (u_434 : Int32) (u_435 : Int32) (u_436 : Int64) (u_437 : Int32) (u_438 : Int32) (u_439 : Int32) (u_440 : Int32) =>
    lt8 (y_X6_takeNumber 1 20 h0_reader_length u_434 u_435 u_436 h0_reader_mostBytes u_437 u_438 u_439 u_440 F_h0_reader_bytes) fun (r_446 : Int32) (u_448 : Int32) (u_449 : Int32) (u_450 : Int64) (u_451 : Int32) (u_452 : Int32) (u_453 : Int32) (u_454 : Int32) =>
    lt8 (y_X6_takeNumber 0 12 h0_reader_length u_448 u_449 u_450 h0_reader_mostBytes u_451 u_452 u_453 u_454 F_h0_reader_bytes) fun (r_460 : Int32) (u_462 : Int32) (u_463 : Int32) (u_464 : Int64) (u_465 : Int32) (u_466 : Int32) (u_467 : Int32) (u_468 : Int32) =>
    lt6 (y_X6_takeIf h0_reader_length u_462 u_464 h0_reader_mostBytes u_465 u_466 u_467 u_468 F_h0_reader_bytes 1) fun (r_474 : Int32) (u_476 : Int64) (u_477 : Int32) (u_478 : Int32) (u_479 : Int32) (u_480 : Int32) =>
    if (r_474 : Int32) = 0 then (
     lt7 (y_X6_takeSign 59 h0_reader_length u_462 u_463 u_476 h0_reader_mostBytes u_477 u_478 u_479 u_480 F_h0_reader_bytes) fun (u_499 : Int32) (u_500 : Int32) (u_501 : Int64) (u_502 : Int32) (u_503 : Int32) (u_504 : Int32) (u_505 : Int32) =>
     lt1 (y_X6_isBroken u_499) fun (r_511 : Int32) =>
     if (r_511 : Int32) = 0 then (
      lt1 (vp_updL F_h0_draft_jurorName (h0_draft_jurors : Int32).toNatClampNeg (r_418 : Int64)) fun (g_519 : Nat → Int64) =>
      lt1 (upd F_h0_draft_pitch (h0_draft_jurors : Int32).toNatClampNeg (r_432 : Int32)) fun (g_520 : Nat → Int32) =>
      lt1 (upd F_h0_draft_length (h0_draft_jurors : Int32).toNatClampNeg (r_446 : Int32)) fun (g_521 : Nat → Int32) =>
      lt1 (upd F_h0_draft_hands (h0_draft_jurors : Int32).toNatClampNeg (r_460 : Int32)) fun (g_522 : Nat → Int32) =>
      lt1 ((h0_draft_jurors : Int32) + 1) fun (x_523 : Int32) =>
      (x_523, h0_draft_seated, u_499, u_500, u_501, u_502, u_503, u_504, u_505, g_519, g_520, g_521, g_522)
     ) else (
      (h0_draft_jurors, h0_draft_seated, u_499, u_500, u_501, u_502, u_503, u_504, u_505, F_h0_draft_jurorName, F_h0_draft_pitch, F_h0_draft_length, F_h0_draft_hands)
     )
    ) else (
     lt7 (y_X6_takeSign 59 h0_reader_length u_462 u_463 u_476 h0_reader_mostBytes u_477 u_478 u_479 u_480 F_h0_reader_bytes) fun (u_528 : Int32) (u_529 : Int32) (u_530 : Int64) (u_531 : Int32) (u_532 : Int32) (u_533 : Int32) (u_534 : Int32) =>
     lt1 (y_X6_isBroken u_528) fun (r_540 : Int32) =>
     if (r_540 : Int32) = 0 then (
      lt1 (vp_updL F_h0_draft_jurorName (h0_draft_jurors : Int32).toNatClampNeg (r_418 : Int64)) fun (g_548 : Nat → Int64) =>
      lt1 (upd F_h0_draft_pitch (h0_draft_jurors : Int32).toNatClampNeg (r_432 : Int32)) fun (g_549 : Nat → Int32) =>
      lt1 (upd F_h0_draft_length (h0_draft_jurors : Int32).toNatClampNeg (r_446 : Int32)) fun (g_550 : Nat → Int32) =>
      lt1 (upd F_h0_draft_hands (h0_draft_jurors : Int32).toNatClampNeg (r_460 : Int32)) fun (g_551 : Nat → Int32) =>
      lt1 ((1 : Int32) <<< (h0_draft_jurors &&& 31)) fun (x_552 : Int32) =>
      lt1 ((h0_draft_seated : Int32) ||| x_552) fun (x_554 : Int32) =>
      lt1 ((h0_draft_jurors : Int32) + 1) fun (x_556 : Int32) =>
      (x_556, x_554, u_528, u_529, u_530, u_531, u_532, u_533, u_534, g_548, g_549, g_550, g_551)
     ) else (
      (h0_draft_jurors, h0_draft_seated, u_528, u_529, u_530, u_531, u_532, u_533, u_534, F_h0_draft_jurorName, F_h0_draft_pitch, F_h0_draft_length, F_h0_draft_hands)
     )
    )
   ) else (
    lt8 (y_X6_takeNewName 0 h0_reader_length h0_reader_faultKind h0_reader_faultAt u_404 h0_reader_mostBytes u_405 u_406 u_407 u_408 F_h0_reader_bytes) fun (r_559 : Int64) (u_561 : Int32) (u_562 : Int32) (u_563 : Int64) (u_564 : Int32) (u_565 : Int32) (u_566 : Int32) (u_567 : Int32) =>
    lt8 (y_X6_takeNumber 1 60 h0_reader_length u_561 u_562 u_563 h0_reader_mostBytes u_564 u_565 u_566 u_567 F_h0_reader_bytes) fun (r_573 : Int32) (u_575 : Int32) (u_576 : Int32) (u_577 : Int64) (u_578 : Int32) (u_579 : Int32) (u_580 : Int32) (u_581 : Int32) =>
    lt8 (y_X6_takeNumber 1 20 h0_reader_length u_575 u_576 u_577 h0_reader_mostBytes u_578 u_579 u_580 u_581 F_h0_reader_bytes) fun (r_587 : Int32) (u_589 : Int32) (u_590 : Int32) (u_591 : Int64) (u_592 : Int32) (u_593 : Int32) (u_594 : Int32) (u_595 : Int32) =>
    lt8 (y_X6_takeNumber 0 12 h0_reader_length u_589 u_590 u_591 h0_reader_mostBytes u_592 u_593 u_594 u_595 F_h0_reader_bytes) fun (r_601 : Int32) (u_603 : Int32) (u_604 : Int32) (u_605 : Int64) (u_606 : Int32) (u_607 : Int32) (u_608 : Int32) (u_609 : Int32) =>
    lt6 (y_X6_takeIf h0_reader_length u_603 u_605 h0_reader_mostBytes u_606 u_607 u_608 u_609 F_h0_reader_bytes 1) fun (r_615 : Int32) (u_617 : Int64) (u_618 : Int32) (u_619 : Int32) (u_620 : Int32) (u_621 : Int32) =>
    if (r_615 : Int32) = 0 then (
     lt7 (y_X6_takeSign 59 h0_reader_length u_603 u_604 u_617 h0_reader_mostBytes u_618 u_619 u_620 u_621 F_h0_reader_bytes) fun (u_640 : Int32) (u_641 : Int32) (u_642 : Int64) (u_643 : Int32) (u_644 : Int32) (u_645 : Int32) (u_646 : Int32) =>
     lt1 (y_X6_isBroken u_640) fun (r_652 : Int32) =>
     if (r_652 : Int32) = 0 then (
      lt1 (vp_updL F_h0_draft_jurorName (h0_draft_jurors : Int32).toNatClampNeg (r_559 : Int64)) fun (g_660 : Nat → Int64) =>
      lt1 (upd F_h0_draft_pitch (h0_draft_jurors : Int32).toNatClampNeg (r_573 : Int32)) fun (g_661 : Nat → Int32) =>
      lt1 (upd F_h0_draft_length (h0_draft_jurors : Int32).toNatClampNeg (r_587 : Int32)) fun (g_662 : Nat → Int32) =>
      lt1 (upd F_h0_draft_hands (h0_draft_jurors : Int32).toNatClampNeg (r_601 : Int32)) fun (g_663 : Nat → Int32) =>
      lt1 ((h0_draft_jurors : Int32) + 1) fun (x_664 : Int32) =>
      (x_664, h0_draft_seated, u_640, u_641, u_642, u_643, u_644, u_645, u_646, g_660, g_661, g_662, g_663)
     ) else (
      (h0_draft_jurors, h0_draft_seated, u_640, u_641, u_642, u_643, u_644, u_645, u_646, F_h0_draft_jurorName, F_h0_draft_pitch, F_h0_draft_length, F_h0_draft_hands)
     )
    ) else (
     lt7 (y_X6_takeSign 59 h0_reader_length u_603 u_604 u_617 h0_reader_mostBytes u_618 u_619 u_620 u_621 F_h0_reader_bytes) fun (u_669 : Int32) (u_670 : Int32) (u_671 : Int64) (u_672 : Int32) (u_673 : Int32) (u_674 : Int32) (u_675 : Int32) =>
     lt1 (y_X6_isBroken u_669) fun (r_681 : Int32) =>
     if (r_681 : Int32) = 0 then (
      lt1 (vp_updL F_h0_draft_jurorName (h0_draft_jurors : Int32).toNatClampNeg (r_559 : Int64)) fun (g_689 : Nat → Int64) =>
      lt1 (upd F_h0_draft_pitch (h0_draft_jurors : Int32).toNatClampNeg (r_573 : Int32)) fun (g_690 : Nat → Int32) =>
      lt1 (upd F_h0_draft_length (h0_draft_jurors : Int32).toNatClampNeg (r_587 : Int32)) fun (g_691 : Nat → Int32) =>
      lt1 (upd F_h0_draft_hands (h0_draft_jurors : Int32).toNatClampNeg (r_601 : Int32)) fun (g_692 : Nat → Int32) =>
      lt1 ((1 : Int32) <<< (h0_draft_jurors &&& 31)) fun (x_693 : Int32) =>
      lt1 ((h0_draft_seated : Int32) ||| x_693) fun (x_695 : Int32) =>
      lt1 ((h0_draft_jurors : Int32) + 1) fun (x_697 : Int32) =>
      (x_697, x_695, u_669, u_670, u_671, u_672, u_673, u_674, u_675, g_689, g_690, g_691, g_692)
     ) else (
      (h0_draft_jurors, h0_draft_seated, u_669, u_670, u_671, u_672, u_673, u_674, u_675, F_h0_draft_jurorName, F_h0_draft_pitch, F_h0_draft_length, F_h0_draft_hands)
     )
    )
   )
  ) else (
   lt4 (y_X6_fail 4 h0_reader_faultKind h0_reader_faultAt h0_reader_letters h0_reader_at h0_reader_kind) fun (u_704 : Int32) (u_705 : Int32) (u_706 : Int64) (u_707 : Int32) =>
   lt1 (y_X5_isTold u_706 h0_draft_jurors h0_draft_floors h0_draft_cases F_h0_draft_jurorName F_h0_draft_floorName F_h0_draft_caseName) fun (r_713 : Int32) =>
   if (r_713 : Int32) = 1 then (
    lt1 (y_X6_takeNewName_br 1 u_706 u_707) fun (r_719 : Int64) =>
    lt1 (y_X6_takeNumber_br 1 60 u_707 h0_reader_number) fun (r_722 : Int32) =>
    lt1 (y_X6_takeNumber_br 1 20 u_707 h0_reader_number) fun (r_725 : Int32) =>
    lt1 (y_X6_takeNumber_br 0 12 u_707 h0_reader_number) fun (r_728 : Int32) =>
    lt1 (y_X6_takeIf_br u_706 u_707 1) fun (r_731 : Int32) =>
    if (r_731 : Int32) = 0 then (
     lt1 (y_X6_isBroken u_704) fun (r_740 : Int32) =>
     if (r_740 : Int32) = 0 then (
      (0, 0, 0, 0, 0, 0, 0, 0, 0, (fun _ => 0), (fun _ => 0), (fun _ => 0), (fun _ => 0))
     ) else (
      (h0_draft_jurors, h0_draft_seated, u_704, u_705, u_706, h0_reader_behind, h0_reader_at, u_707, h0_reader_number, F_h0_draft_jurorName, F_h0_draft_pitch, F_h0_draft_length, F_h0_draft_hands)
     )
    ) else (
     lt1 (y_X6_isBroken u_704) fun (r_750 : Int32) =>
     if (r_750 : Int32) = 0 then (
      (0, 0, 0, 0, 0, 0, 0, 0, 0, (fun _ => 0), (fun _ => 0), (fun _ => 0), (fun _ => 0))
     ) else (
      (h0_draft_jurors, h0_draft_seated, u_704, u_705, u_706, h0_reader_behind, h0_reader_at, u_707, h0_reader_number, F_h0_draft_jurorName, F_h0_draft_pitch, F_h0_draft_length, F_h0_draft_hands)
     )
    )
   ) else (
    lt1 (y_X6_takeNewName_br 0 u_706 u_707) fun (r_758 : Int64) =>
    lt1 (y_X6_takeNumber_br 1 60 u_707 h0_reader_number) fun (r_761 : Int32) =>
    lt1 (y_X6_takeNumber_br 1 20 u_707 h0_reader_number) fun (r_764 : Int32) =>
    lt1 (y_X6_takeNumber_br 0 12 u_707 h0_reader_number) fun (r_767 : Int32) =>
    lt1 (y_X6_takeIf_br u_706 u_707 1) fun (r_770 : Int32) =>
    if (r_770 : Int32) = 0 then (
     lt1 (y_X6_isBroken u_704) fun (r_779 : Int32) =>
     if (r_779 : Int32) = 0 then (
      (0, 0, 0, 0, 0, 0, 0, 0, 0, (fun _ => 0), (fun _ => 0), (fun _ => 0), (fun _ => 0))
     ) else (
      (h0_draft_jurors, h0_draft_seated, u_704, u_705, u_706, h0_reader_behind, h0_reader_at, u_707, h0_reader_number, F_h0_draft_jurorName, F_h0_draft_pitch, F_h0_draft_length, F_h0_draft_hands)
     )
    ) else (
     lt1 (y_X6_isBroken u_704) fun (r_789 : Int32) =>
     if (r_789 : Int32) = 0 then (
      (0, 0, 0, 0, 0, 0, 0, 0, 0, (fun _ => 0), (fun _ => 0), (fun _ => 0), (fun _ => 0))
     ) else (
      (h0_draft_jurors, h0_draft_seated, u_704, u_705, u_706, h0_reader_behind, h0_reader_at, u_707, h0_reader_number, F_h0_draft_jurorName, F_h0_draft_pitch, F_h0_draft_length, F_h0_draft_hands)
     )
    )
   )
  )) := rfl
def y_X2_readFloor (h0_draft_jurors : Int32) (h0_draft_floors : Int32) (h0_draft_cases : Int32) (h0_reader_length : Int32) (h0_reader_faultKind : Int32) (h0_reader_faultAt : Int32) (h0_reader_letters : Int64) (h0_reader_mostBytes : Int32) (h0_reader_behind : Int32) (h0_reader_at : Int32) (h0_reader_kind : Int32) (h0_reader_number : Int32) (F_h0_reader_bytes : Nat → Int32) (F_h0_draft_jurorName : Nat → Int64) (F_h0_draft_floorName : Nat → Int64) (F_h0_draft_caseName : Nat → Int64) (F_h0_draft_tune : Nat → Int32) (F_h0_draft_dull : Nat → Int32)  : Int32 × Int32 × Int32 × Int64 × Int32 × Int32 × Int32 × Int32 × (Nat → Int64) × (Nat → Int32) × (Nat → Int32) :=
  if (h0_draft_floors : Int32) < 4 then (
   lt5 (y_X6_advance h0_reader_length h0_reader_faultKind h0_reader_letters h0_reader_mostBytes h0_reader_behind h0_reader_at h0_reader_kind h0_reader_number F_h0_reader_bytes) fun (u_222 : Int64) (u_223 : Int32) (u_224 : Int32) (u_225 : Int32) (u_226 : Int32) =>
   lt1 (y_X5_isTold u_222 h0_draft_jurors h0_draft_floors h0_draft_cases F_h0_draft_jurorName F_h0_draft_floorName F_h0_draft_caseName) fun (r_230 : Int32) =>
   if (r_230 : Int32) = 1 then (
    lt8 (y_X6_takeNewName 1 h0_reader_length h0_reader_faultKind h0_reader_faultAt u_222 h0_reader_mostBytes u_223 u_224 u_225 u_226 F_h0_reader_bytes) fun (r_236 : Int64) (u_238 : Int32) (u_239 : Int32) (u_240 : Int64) (u_241 : Int32) (u_242 : Int32) (u_243 : Int32) (u_244 : Int32) =>
    lt8 (y_X6_takeNumber 0 20 h0_reader_length u_238 u_239 u_240 h0_reader_mostBytes u_241 u_242 u_243 u_244 F_h0_reader_bytes) fun (r_250 : Int32) (u_252 : Int32) (u_253 : Int32) (u_254 : Int64) (u_255 : Int32) (u_256 : Int32) (u_257 : Int32) (u_258 : Int32) =>
    lt8 (y_X6_takeNumber 0 20 h0_reader_length u_252 u_253 u_254 h0_reader_mostBytes u_255 u_256 u_257 u_258 F_h0_reader_bytes) fun (r_264 : Int32) (u_266 : Int32) (u_267 : Int32) (u_268 : Int64) (u_269 : Int32) (u_270 : Int32) (u_271 : Int32) (u_272 : Int32) =>
    lt7 (y_X6_takeSign 59 h0_reader_length u_266 u_267 u_268 h0_reader_mostBytes u_269 u_270 u_271 u_272 F_h0_reader_bytes) fun (u_280 : Int32) (u_281 : Int32) (u_282 : Int64) (u_283 : Int32) (u_284 : Int32) (u_285 : Int32) (u_286 : Int32) =>
    lt1 (y_X6_isBroken u_280) fun (r_292 : Int32) =>
    if (r_292 : Int32) = 0 then (
     lt1 (vp_updL F_h0_draft_floorName (h0_draft_floors : Int32).toNatClampNeg (r_236 : Int64)) fun (g_300 : Nat → Int64) =>
     lt1 (upd F_h0_draft_tune (h0_draft_floors : Int32).toNatClampNeg (r_250 : Int32)) fun (g_301 : Nat → Int32) =>
     lt1 (upd F_h0_draft_dull (h0_draft_floors : Int32).toNatClampNeg (r_264 : Int32)) fun (g_302 : Nat → Int32) =>
     lt1 ((h0_draft_floors : Int32) + 1) fun (x_303 : Int32) =>
     (x_303, u_280, u_281, u_282, u_283, u_284, u_285, u_286, g_300, g_301, g_302)
    ) else (
     (h0_draft_floors, u_280, u_281, u_282, u_283, u_284, u_285, u_286, F_h0_draft_floorName, F_h0_draft_tune, F_h0_draft_dull)
    )
   ) else (
    lt8 (y_X6_takeNewName 0 h0_reader_length h0_reader_faultKind h0_reader_faultAt u_222 h0_reader_mostBytes u_223 u_224 u_225 u_226 F_h0_reader_bytes) fun (r_306 : Int64) (u_308 : Int32) (u_309 : Int32) (u_310 : Int64) (u_311 : Int32) (u_312 : Int32) (u_313 : Int32) (u_314 : Int32) =>
    lt8 (y_X6_takeNumber 0 20 h0_reader_length u_308 u_309 u_310 h0_reader_mostBytes u_311 u_312 u_313 u_314 F_h0_reader_bytes) fun (r_320 : Int32) (u_322 : Int32) (u_323 : Int32) (u_324 : Int64) (u_325 : Int32) (u_326 : Int32) (u_327 : Int32) (u_328 : Int32) =>
    lt8 (y_X6_takeNumber 0 20 h0_reader_length u_322 u_323 u_324 h0_reader_mostBytes u_325 u_326 u_327 u_328 F_h0_reader_bytes) fun (r_334 : Int32) (u_336 : Int32) (u_337 : Int32) (u_338 : Int64) (u_339 : Int32) (u_340 : Int32) (u_341 : Int32) (u_342 : Int32) =>
    lt7 (y_X6_takeSign 59 h0_reader_length u_336 u_337 u_338 h0_reader_mostBytes u_339 u_340 u_341 u_342 F_h0_reader_bytes) fun (u_350 : Int32) (u_351 : Int32) (u_352 : Int64) (u_353 : Int32) (u_354 : Int32) (u_355 : Int32) (u_356 : Int32) =>
    lt1 (y_X6_isBroken u_350) fun (r_362 : Int32) =>
    if (r_362 : Int32) = 0 then (
     lt1 (vp_updL F_h0_draft_floorName (h0_draft_floors : Int32).toNatClampNeg (r_306 : Int64)) fun (g_370 : Nat → Int64) =>
     lt1 (upd F_h0_draft_tune (h0_draft_floors : Int32).toNatClampNeg (r_320 : Int32)) fun (g_371 : Nat → Int32) =>
     lt1 (upd F_h0_draft_dull (h0_draft_floors : Int32).toNatClampNeg (r_334 : Int32)) fun (g_372 : Nat → Int32) =>
     lt1 ((h0_draft_floors : Int32) + 1) fun (x_373 : Int32) =>
     (x_373, u_350, u_351, u_352, u_353, u_354, u_355, u_356, g_370, g_371, g_372)
    ) else (
     (h0_draft_floors, u_350, u_351, u_352, u_353, u_354, u_355, u_356, F_h0_draft_floorName, F_h0_draft_tune, F_h0_draft_dull)
    )
   )
  ) else (
   lt4 (y_X6_fail 4 h0_reader_faultKind h0_reader_faultAt h0_reader_letters h0_reader_at h0_reader_kind) fun (u_380 : Int32) (u_381 : Int32) (u_382 : Int64) (u_383 : Int32) =>
   lt1 (y_X5_isTold u_382 h0_draft_jurors h0_draft_floors h0_draft_cases F_h0_draft_jurorName F_h0_draft_floorName F_h0_draft_caseName) fun (r_389 : Int32) =>
   if (r_389 : Int32) = 1 then (
    lt1 (y_X6_takeNewName_br 1 u_382 u_383) fun (r_395 : Int64) =>
    lt1 (y_X6_takeNumber_br 0 20 u_383 h0_reader_number) fun (r_398 : Int32) =>
    lt1 (y_X6_takeNumber_br 0 20 u_383 h0_reader_number) fun (r_401 : Int32) =>
    lt1 (y_X6_isBroken u_380) fun (r_406 : Int32) =>
    if (r_406 : Int32) = 0 then (
     (0, 0, 0, 0, 0, 0, 0, 0, (fun _ => 0), (fun _ => 0), (fun _ => 0))
    ) else (
     (h0_draft_floors, u_380, u_381, u_382, h0_reader_behind, h0_reader_at, u_383, h0_reader_number, F_h0_draft_floorName, F_h0_draft_tune, F_h0_draft_dull)
    )
   ) else (
    lt1 (y_X6_takeNewName_br 0 u_382 u_383) fun (r_414 : Int64) =>
    lt1 (y_X6_takeNumber_br 0 20 u_383 h0_reader_number) fun (r_417 : Int32) =>
    lt1 (y_X6_takeNumber_br 0 20 u_383 h0_reader_number) fun (r_420 : Int32) =>
    lt1 (y_X6_isBroken u_380) fun (r_425 : Int32) =>
    if (r_425 : Int32) = 0 then (
     (0, 0, 0, 0, 0, 0, 0, 0, (fun _ => 0), (fun _ => 0), (fun _ => 0))
    ) else (
     (h0_draft_floors, u_380, u_381, u_382, h0_reader_behind, h0_reader_at, u_383, h0_reader_number, F_h0_draft_floorName, F_h0_draft_tune, F_h0_draft_dull)
    )
   )
  )
theorem y_X2_readFloor_s (h0_draft_jurors : Int32) (h0_draft_floors : Int32) (h0_draft_cases : Int32) (h0_reader_length : Int32) (h0_reader_faultKind : Int32) (h0_reader_faultAt : Int32) (h0_reader_letters : Int64) (h0_reader_mostBytes : Int32) (h0_reader_behind : Int32) (h0_reader_at : Int32) (h0_reader_kind : Int32) (h0_reader_number : Int32) (F_h0_reader_bytes : Nat → Int32) (F_h0_draft_jurorName : Nat → Int64) (F_h0_draft_floorName : Nat → Int64) (F_h0_draft_caseName : Nat → Int64) (F_h0_draft_tune : Nat → Int32) (F_h0_draft_dull : Nat → Int32)  : y_X2_readFloor h0_draft_jurors h0_draft_floors h0_draft_cases h0_reader_length h0_reader_faultKind h0_reader_faultAt h0_reader_letters h0_reader_mostBytes h0_reader_behind h0_reader_at h0_reader_kind h0_reader_number F_h0_reader_bytes F_h0_draft_jurorName F_h0_draft_floorName F_h0_draft_caseName F_h0_draft_tune F_h0_draft_dull = (
  if (h0_draft_floors : Int32) < 4 then (
   lt5 (y_X6_advance h0_reader_length h0_reader_faultKind h0_reader_letters h0_reader_mostBytes h0_reader_behind h0_reader_at h0_reader_kind h0_reader_number F_h0_reader_bytes) fun (u_222 : Int64) (u_223 : Int32) (u_224 : Int32) (u_225 : Int32) (u_226 : Int32) =>
   lt1 (y_X5_isTold u_222 h0_draft_jurors h0_draft_floors h0_draft_cases F_h0_draft_jurorName F_h0_draft_floorName F_h0_draft_caseName) fun (r_230 : Int32) =>
   if (r_230 : Int32) = 1 then (
    lt8 (y_X6_takeNewName 1 h0_reader_length h0_reader_faultKind h0_reader_faultAt u_222 h0_reader_mostBytes u_223 u_224 u_225 u_226 F_h0_reader_bytes) fun (r_236 : Int64) (u_238 : Int32) (u_239 : Int32) (u_240 : Int64) (u_241 : Int32) (u_242 : Int32) (u_243 : Int32) (u_244 : Int32) =>
    lt8 (y_X6_takeNumber 0 20 h0_reader_length u_238 u_239 u_240 h0_reader_mostBytes u_241 u_242 u_243 u_244 F_h0_reader_bytes) fun (r_250 : Int32) (u_252 : Int32) (u_253 : Int32) (u_254 : Int64) (u_255 : Int32) (u_256 : Int32) (u_257 : Int32) (u_258 : Int32) =>
    lt8 (y_X6_takeNumber 0 20 h0_reader_length u_252 u_253 u_254 h0_reader_mostBytes u_255 u_256 u_257 u_258 F_h0_reader_bytes) fun (r_264 : Int32) (u_266 : Int32) (u_267 : Int32) (u_268 : Int64) (u_269 : Int32) (u_270 : Int32) (u_271 : Int32) (u_272 : Int32) =>
    lt7 (y_X6_takeSign 59 h0_reader_length u_266 u_267 u_268 h0_reader_mostBytes u_269 u_270 u_271 u_272 F_h0_reader_bytes) fun (u_280 : Int32) (u_281 : Int32) (u_282 : Int64) (u_283 : Int32) (u_284 : Int32) (u_285 : Int32) (u_286 : Int32) =>
    lt1 (y_X6_isBroken u_280) fun (r_292 : Int32) =>
    if (r_292 : Int32) = 0 then (
     lt1 (vp_updL F_h0_draft_floorName (h0_draft_floors : Int32).toNatClampNeg (r_236 : Int64)) fun (g_300 : Nat → Int64) =>
     lt1 (upd F_h0_draft_tune (h0_draft_floors : Int32).toNatClampNeg (r_250 : Int32)) fun (g_301 : Nat → Int32) =>
     lt1 (upd F_h0_draft_dull (h0_draft_floors : Int32).toNatClampNeg (r_264 : Int32)) fun (g_302 : Nat → Int32) =>
     lt1 ((h0_draft_floors : Int32) + 1) fun (x_303 : Int32) =>
     (x_303, u_280, u_281, u_282, u_283, u_284, u_285, u_286, g_300, g_301, g_302)
    ) else (
     (h0_draft_floors, u_280, u_281, u_282, u_283, u_284, u_285, u_286, F_h0_draft_floorName, F_h0_draft_tune, F_h0_draft_dull)
    )
   ) else (
    lt8 (y_X6_takeNewName 0 h0_reader_length h0_reader_faultKind h0_reader_faultAt u_222 h0_reader_mostBytes u_223 u_224 u_225 u_226 F_h0_reader_bytes) fun (r_306 : Int64) (u_308 : Int32) (u_309 : Int32) (u_310 : Int64) (u_311 : Int32) (u_312 : Int32) (u_313 : Int32) (u_314 : Int32) =>
    lt8 (y_X6_takeNumber 0 20 h0_reader_length u_308 u_309 u_310 h0_reader_mostBytes u_311 u_312 u_313 u_314 F_h0_reader_bytes) fun (r_320 : Int32) (u_322 : Int32) (u_323 : Int32) (u_324 : Int64) (u_325 : Int32) (u_326 : Int32) (u_327 : Int32) (u_328 : Int32) =>
    lt8 (y_X6_takeNumber 0 20 h0_reader_length u_322 u_323 u_324 h0_reader_mostBytes u_325 u_326 u_327 u_328 F_h0_reader_bytes) fun (r_334 : Int32) (u_336 : Int32) (u_337 : Int32) (u_338 : Int64) (u_339 : Int32) (u_340 : Int32) (u_341 : Int32) (u_342 : Int32) =>
    lt7 (y_X6_takeSign 59 h0_reader_length u_336 u_337 u_338 h0_reader_mostBytes u_339 u_340 u_341 u_342 F_h0_reader_bytes) fun (u_350 : Int32) (u_351 : Int32) (u_352 : Int64) (u_353 : Int32) (u_354 : Int32) (u_355 : Int32) (u_356 : Int32) =>
    lt1 (y_X6_isBroken u_350) fun (r_362 : Int32) =>
    if (r_362 : Int32) = 0 then (
     lt1 (vp_updL F_h0_draft_floorName (h0_draft_floors : Int32).toNatClampNeg (r_306 : Int64)) fun (g_370 : Nat → Int64) =>
     lt1 (upd F_h0_draft_tune (h0_draft_floors : Int32).toNatClampNeg (r_320 : Int32)) fun (g_371 : Nat → Int32) =>
     lt1 (upd F_h0_draft_dull (h0_draft_floors : Int32).toNatClampNeg (r_334 : Int32)) fun (g_372 : Nat → Int32) =>
     lt1 ((h0_draft_floors : Int32) + 1) fun (x_373 : Int32) =>
     (x_373, u_350, u_351, u_352, u_353, u_354, u_355, u_356, g_370, g_371, g_372)
    ) else (
     (h0_draft_floors, u_350, u_351, u_352, u_353, u_354, u_355, u_356, F_h0_draft_floorName, F_h0_draft_tune, F_h0_draft_dull)
    )
   )
  ) else (
   lt4 (y_X6_fail 4 h0_reader_faultKind h0_reader_faultAt h0_reader_letters h0_reader_at h0_reader_kind) fun (u_380 : Int32) (u_381 : Int32) (u_382 : Int64) (u_383 : Int32) =>
   lt1 (y_X5_isTold u_382 h0_draft_jurors h0_draft_floors h0_draft_cases F_h0_draft_jurorName F_h0_draft_floorName F_h0_draft_caseName) fun (r_389 : Int32) =>
   if (r_389 : Int32) = 1 then (
    lt1 (y_X6_takeNewName_br 1 u_382 u_383) fun (r_395 : Int64) =>
    lt1 (y_X6_takeNumber_br 0 20 u_383 h0_reader_number) fun (r_398 : Int32) =>
    lt1 (y_X6_takeNumber_br 0 20 u_383 h0_reader_number) fun (r_401 : Int32) =>
    lt1 (y_X6_isBroken u_380) fun (r_406 : Int32) =>
    if (r_406 : Int32) = 0 then (
     (0, 0, 0, 0, 0, 0, 0, 0, (fun _ => 0), (fun _ => 0), (fun _ => 0))
    ) else (
     (h0_draft_floors, u_380, u_381, u_382, h0_reader_behind, h0_reader_at, u_383, h0_reader_number, F_h0_draft_floorName, F_h0_draft_tune, F_h0_draft_dull)
    )
   ) else (
    lt1 (y_X6_takeNewName_br 0 u_382 u_383) fun (r_414 : Int64) =>
    lt1 (y_X6_takeNumber_br 0 20 u_383 h0_reader_number) fun (r_417 : Int32) =>
    lt1 (y_X6_takeNumber_br 0 20 u_383 h0_reader_number) fun (r_420 : Int32) =>
    lt1 (y_X6_isBroken u_380) fun (r_425 : Int32) =>
    if (r_425 : Int32) = 0 then (
     (0, 0, 0, 0, 0, 0, 0, 0, (fun _ => 0), (fun _ => 0), (fun _ => 0))
    ) else (
     (h0_draft_floors, u_380, u_381, u_382, h0_reader_behind, h0_reader_at, u_383, h0_reader_number, F_h0_draft_floorName, F_h0_draft_tune, F_h0_draft_dull)
    )
   )
  )) := rfl
def y_X6_takeFound_br (a1 : Int32) (h0_letters : Int64) (h0_kind : Int32)  : Int32 :=
  lt1 (y_X6_seesName h0_letters h0_kind) fun (r_19 : Int32) =>
  if (r_19 : Int32) = 0 then (
   (-1)
  ) else (
   if (a1 : Int32) = (-1) then (
    (-1)
   ) else (
    a1
   )
  )
theorem y_X6_takeFound_br_s (a1 : Int32) (h0_letters : Int64) (h0_kind : Int32)  : y_X6_takeFound_br a1 h0_letters h0_kind = (
  lt1 (y_X6_seesName h0_letters h0_kind) fun (r_19 : Int32) =>
  if (r_19 : Int32) = 0 then (
   (-1)
  ) else (
   if (a1 : Int32) = (-1) then (
    (-1)
   ) else (
    a1
   )
  )) := rfl
def y_X6_takeFound (a1 : Int32) (h0_length : Int32) (h0_faultKind : Int32) (h0_faultAt : Int32) (h0_letters : Int64) (h0_mostBytes : Int32) (h0_behind : Int32) (h0_at : Int32) (h0_kind : Int32) (h0_number : Int32) (F_h0_bytes : Nat → Int32)  : Int32 × Int32 × Int32 × Int64 × Int32 × Int32 × Int32 × Int32 :=
  lt1 (y_X6_seesName h0_letters h0_kind) fun (r_41 : Int32) =>
  if (r_41 : Int32) = 0 then (
   lt4 (y_X6_fail 1 h0_faultKind h0_faultAt h0_letters h0_at h0_kind) fun (u_50 : Int32) (u_51 : Int32) (u_52 : Int64) (u_53 : Int32) =>
   ((-1), u_50, u_51, u_52, h0_behind, h0_at, u_53, h0_number)
  ) else (
   if (a1 : Int32) = (-1) then (
    lt4 (y_X6_fail 3 h0_faultKind h0_faultAt h0_letters h0_at h0_kind) fun (u_74 : Int32) (u_75 : Int32) (u_76 : Int64) (u_77 : Int32) =>
    ((-1), u_74, u_75, u_76, h0_behind, h0_at, u_77, h0_number)
   ) else (
    lt5 (y_X6_advance h0_length h0_faultKind h0_letters h0_mostBytes h0_behind h0_at h0_kind h0_number F_h0_bytes) fun (u_61 : Int64) (u_62 : Int32) (u_63 : Int32) (u_64 : Int32) (u_65 : Int32) =>
    (a1, h0_faultKind, h0_faultAt, u_61, u_62, u_63, u_64, u_65)
   )
  )
theorem y_X6_takeFound_s (a1 : Int32) (h0_length : Int32) (h0_faultKind : Int32) (h0_faultAt : Int32) (h0_letters : Int64) (h0_mostBytes : Int32) (h0_behind : Int32) (h0_at : Int32) (h0_kind : Int32) (h0_number : Int32) (F_h0_bytes : Nat → Int32)  : y_X6_takeFound a1 h0_length h0_faultKind h0_faultAt h0_letters h0_mostBytes h0_behind h0_at h0_kind h0_number F_h0_bytes = (
  lt1 (y_X6_seesName h0_letters h0_kind) fun (r_41 : Int32) =>
  if (r_41 : Int32) = 0 then (
   lt4 (y_X6_fail 1 h0_faultKind h0_faultAt h0_letters h0_at h0_kind) fun (u_50 : Int32) (u_51 : Int32) (u_52 : Int64) (u_53 : Int32) =>
   ((-1), u_50, u_51, u_52, h0_behind, h0_at, u_53, h0_number)
  ) else (
   if (a1 : Int32) = (-1) then (
    lt4 (y_X6_fail 3 h0_faultKind h0_faultAt h0_letters h0_at h0_kind) fun (u_74 : Int32) (u_75 : Int32) (u_76 : Int64) (u_77 : Int32) =>
    ((-1), u_74, u_75, u_76, h0_behind, h0_at, u_77, h0_number)
   ) else (
    lt5 (y_X6_advance h0_length h0_faultKind h0_letters h0_mostBytes h0_behind h0_at h0_kind h0_number F_h0_bytes) fun (u_61 : Int64) (u_62 : Int32) (u_63 : Int32) (u_64 : Int32) (u_65 : Int32) =>
    (a1, h0_faultKind, h0_faultAt, u_61, u_62, u_63, u_64, u_65)
   )
  )) := rfl
def y_X2_readCase (h0_draft_jurors : Int32) (h0_draft_floors : Int32) (h0_draft_cases : Int32) (h0_reader_length : Int32) (h0_reader_faultKind : Int32) (h0_reader_faultAt : Int32) (h0_reader_letters : Int64) (h0_reader_mostBytes : Int32) (h0_reader_behind : Int32) (h0_reader_at : Int32) (h0_reader_kind : Int32) (h0_reader_number : Int32) (F_h0_reader_bytes : Nat → Int32) (F_h0_draft_jurorName : Nat → Int64) (F_h0_draft_floorName : Nat → Int64) (F_h0_draft_caseName : Nat → Int64) (F_h0_draft_caseFloor : Nat → Int32)  : Int32 × Int32 × Int32 × Int64 × Int32 × Int32 × Int32 × Int32 × (Nat → Int64) × (Nat → Int32) :=
  if (h0_draft_cases : Int32) < 5 then (
   lt5 (y_X6_advance h0_reader_length h0_reader_faultKind h0_reader_letters h0_reader_mostBytes h0_reader_behind h0_reader_at h0_reader_kind h0_reader_number F_h0_reader_bytes) fun (u_302 : Int64) (u_303 : Int32) (u_304 : Int32) (u_305 : Int32) (u_306 : Int32) =>
   lt1 (y_X5_isTold u_302 h0_draft_jurors h0_draft_floors h0_draft_cases F_h0_draft_jurorName F_h0_draft_floorName F_h0_draft_caseName) fun (r_310 : Int32) =>
   if (r_310 : Int32) = 1 then (
    lt8 (y_X6_takeNewName 1 h0_reader_length h0_reader_faultKind h0_reader_faultAt u_302 h0_reader_mostBytes u_303 u_304 u_305 u_306 F_h0_reader_bytes) fun (r_316 : Int64) (u_318 : Int32) (u_319 : Int32) (u_320 : Int64) (u_321 : Int32) (u_322 : Int32) (u_323 : Int32) (u_324 : Int32) =>
    lt1 (y_X5_floorNamed u_320 h0_draft_floors F_h0_draft_floorName) fun (r_330 : Int32) =>
    lt8 (y_X6_takeFound r_330 h0_reader_length u_318 u_319 u_320 h0_reader_mostBytes u_321 u_322 u_323 u_324 F_h0_reader_bytes) fun (r_334 : Int32) (u_336 : Int32) (u_337 : Int32) (u_338 : Int64) (u_339 : Int32) (u_340 : Int32) (u_341 : Int32) (u_342 : Int32) =>
    if (r_334 : Int32) = (-1) then (
     lt1 (y_X6_isBroken u_336) fun (r_370 : Int32) =>
     if (r_370 : Int32) = 0 then (
      (0, 0, 0, 0, 0, 0, 0, 0, (fun _ => 0), (fun _ => 0))
     ) else (
      (h0_draft_cases, u_336, u_337, u_338, u_339, u_340, u_341, u_342, F_h0_draft_caseName, F_h0_draft_caseFloor)
     )
    ) else (
     lt7 (y_X6_takeSign 59 h0_reader_length u_336 u_337 u_338 h0_reader_mostBytes u_339 u_340 u_341 u_342 F_h0_reader_bytes) fun (u_381 : Int32) (u_382 : Int32) (u_383 : Int64) (u_384 : Int32) (u_385 : Int32) (u_386 : Int32) (u_387 : Int32) =>
     lt1 (y_X6_isBroken u_381) fun (r_393 : Int32) =>
     if (r_393 : Int32) = 0 then (
      lt1 (vp_updL F_h0_draft_caseName (h0_draft_cases : Int32).toNatClampNeg (r_316 : Int64)) fun (g_401 : Nat → Int64) =>
      lt1 (upd F_h0_draft_caseFloor (h0_draft_cases : Int32).toNatClampNeg (r_330 : Int32)) fun (g_402 : Nat → Int32) =>
      lt1 ((h0_draft_cases : Int32) + 1) fun (x_404 : Int32) =>
      (x_404, u_381, u_382, u_383, u_384, u_385, u_386, u_387, g_401, g_402)
     ) else (
      (h0_draft_cases, u_381, u_382, u_383, u_384, u_385, u_386, u_387, F_h0_draft_caseName, F_h0_draft_caseFloor)
     )
    )
   ) else (
    lt8 (y_X6_takeNewName 0 h0_reader_length h0_reader_faultKind h0_reader_faultAt u_302 h0_reader_mostBytes u_303 u_304 u_305 u_306 F_h0_reader_bytes) fun (r_407 : Int64) (u_409 : Int32) (u_410 : Int32) (u_411 : Int64) (u_412 : Int32) (u_413 : Int32) (u_414 : Int32) (u_415 : Int32) =>
    lt1 (y_X5_floorNamed u_411 h0_draft_floors F_h0_draft_floorName) fun (r_421 : Int32) =>
    lt8 (y_X6_takeFound r_421 h0_reader_length u_409 u_410 u_411 h0_reader_mostBytes u_412 u_413 u_414 u_415 F_h0_reader_bytes) fun (r_425 : Int32) (u_427 : Int32) (u_428 : Int32) (u_429 : Int64) (u_430 : Int32) (u_431 : Int32) (u_432 : Int32) (u_433 : Int32) =>
    if (r_425 : Int32) = (-1) then (
     lt1 (y_X6_isBroken u_427) fun (r_461 : Int32) =>
     if (r_461 : Int32) = 0 then (
      (0, 0, 0, 0, 0, 0, 0, 0, (fun _ => 0), (fun _ => 0))
     ) else (
      (h0_draft_cases, u_427, u_428, u_429, u_430, u_431, u_432, u_433, F_h0_draft_caseName, F_h0_draft_caseFloor)
     )
    ) else (
     lt7 (y_X6_takeSign 59 h0_reader_length u_427 u_428 u_429 h0_reader_mostBytes u_430 u_431 u_432 u_433 F_h0_reader_bytes) fun (u_472 : Int32) (u_473 : Int32) (u_474 : Int64) (u_475 : Int32) (u_476 : Int32) (u_477 : Int32) (u_478 : Int32) =>
     lt1 (y_X6_isBroken u_472) fun (r_484 : Int32) =>
     if (r_484 : Int32) = 0 then (
      lt1 (vp_updL F_h0_draft_caseName (h0_draft_cases : Int32).toNatClampNeg (r_407 : Int64)) fun (g_492 : Nat → Int64) =>
      lt1 (upd F_h0_draft_caseFloor (h0_draft_cases : Int32).toNatClampNeg (r_421 : Int32)) fun (g_493 : Nat → Int32) =>
      lt1 ((h0_draft_cases : Int32) + 1) fun (x_495 : Int32) =>
      (x_495, u_472, u_473, u_474, u_475, u_476, u_477, u_478, g_492, g_493)
     ) else (
      (h0_draft_cases, u_472, u_473, u_474, u_475, u_476, u_477, u_478, F_h0_draft_caseName, F_h0_draft_caseFloor)
     )
    )
   )
  ) else (
   lt4 (y_X6_fail 4 h0_reader_faultKind h0_reader_faultAt h0_reader_letters h0_reader_at h0_reader_kind) fun (u_502 : Int32) (u_503 : Int32) (u_504 : Int64) (u_505 : Int32) =>
   lt1 (y_X5_isTold u_504 h0_draft_jurors h0_draft_floors h0_draft_cases F_h0_draft_jurorName F_h0_draft_floorName F_h0_draft_caseName) fun (r_511 : Int32) =>
   if (r_511 : Int32) = 1 then (
    lt1 (y_X6_takeNewName_br 1 u_504 u_505) fun (r_517 : Int64) =>
    lt1 (y_X5_floorNamed u_504 h0_draft_floors F_h0_draft_floorName) fun (r_520 : Int32) =>
    lt1 (y_X6_takeFound_br r_520 u_504 u_505) fun (r_524 : Int32) =>
    if (r_524 : Int32) = (-1) then (
     lt1 (y_X6_isBroken u_502) fun (r_536 : Int32) =>
     if (r_536 : Int32) = 0 then (
      (0, 0, 0, 0, 0, 0, 0, 0, (fun _ => 0), (fun _ => 0))
     ) else (
      (h0_draft_cases, u_502, u_503, u_504, h0_reader_behind, h0_reader_at, u_505, h0_reader_number, F_h0_draft_caseName, F_h0_draft_caseFloor)
     )
    ) else (
     lt1 (y_X6_isBroken u_502) fun (r_547 : Int32) =>
     if (r_547 : Int32) = 0 then (
      (0, 0, 0, 0, 0, 0, 0, 0, (fun _ => 0), (fun _ => 0))
     ) else (
      (h0_draft_cases, u_502, u_503, u_504, h0_reader_behind, h0_reader_at, u_505, h0_reader_number, F_h0_draft_caseName, F_h0_draft_caseFloor)
     )
    )
   ) else (
    lt1 (y_X6_takeNewName_br 0 u_504 u_505) fun (r_555 : Int64) =>
    lt1 (y_X5_floorNamed u_504 h0_draft_floors F_h0_draft_floorName) fun (r_558 : Int32) =>
    lt1 (y_X6_takeFound_br r_558 u_504 u_505) fun (r_562 : Int32) =>
    if (r_562 : Int32) = (-1) then (
     lt1 (y_X6_isBroken u_502) fun (r_574 : Int32) =>
     if (r_574 : Int32) = 0 then (
      (0, 0, 0, 0, 0, 0, 0, 0, (fun _ => 0), (fun _ => 0))
     ) else (
      (h0_draft_cases, u_502, u_503, u_504, h0_reader_behind, h0_reader_at, u_505, h0_reader_number, F_h0_draft_caseName, F_h0_draft_caseFloor)
     )
    ) else (
     lt1 (y_X6_isBroken u_502) fun (r_585 : Int32) =>
     if (r_585 : Int32) = 0 then (
      (0, 0, 0, 0, 0, 0, 0, 0, (fun _ => 0), (fun _ => 0))
     ) else (
      (h0_draft_cases, u_502, u_503, u_504, h0_reader_behind, h0_reader_at, u_505, h0_reader_number, F_h0_draft_caseName, F_h0_draft_caseFloor)
     )
    )
   )
  )
theorem y_X2_readCase_s (h0_draft_jurors : Int32) (h0_draft_floors : Int32) (h0_draft_cases : Int32) (h0_reader_length : Int32) (h0_reader_faultKind : Int32) (h0_reader_faultAt : Int32) (h0_reader_letters : Int64) (h0_reader_mostBytes : Int32) (h0_reader_behind : Int32) (h0_reader_at : Int32) (h0_reader_kind : Int32) (h0_reader_number : Int32) (F_h0_reader_bytes : Nat → Int32) (F_h0_draft_jurorName : Nat → Int64) (F_h0_draft_floorName : Nat → Int64) (F_h0_draft_caseName : Nat → Int64) (F_h0_draft_caseFloor : Nat → Int32)  : y_X2_readCase h0_draft_jurors h0_draft_floors h0_draft_cases h0_reader_length h0_reader_faultKind h0_reader_faultAt h0_reader_letters h0_reader_mostBytes h0_reader_behind h0_reader_at h0_reader_kind h0_reader_number F_h0_reader_bytes F_h0_draft_jurorName F_h0_draft_floorName F_h0_draft_caseName F_h0_draft_caseFloor = (
  if (h0_draft_cases : Int32) < 5 then (
   lt5 (y_X6_advance h0_reader_length h0_reader_faultKind h0_reader_letters h0_reader_mostBytes h0_reader_behind h0_reader_at h0_reader_kind h0_reader_number F_h0_reader_bytes) fun (u_302 : Int64) (u_303 : Int32) (u_304 : Int32) (u_305 : Int32) (u_306 : Int32) =>
   lt1 (y_X5_isTold u_302 h0_draft_jurors h0_draft_floors h0_draft_cases F_h0_draft_jurorName F_h0_draft_floorName F_h0_draft_caseName) fun (r_310 : Int32) =>
   if (r_310 : Int32) = 1 then (
    lt8 (y_X6_takeNewName 1 h0_reader_length h0_reader_faultKind h0_reader_faultAt u_302 h0_reader_mostBytes u_303 u_304 u_305 u_306 F_h0_reader_bytes) fun (r_316 : Int64) (u_318 : Int32) (u_319 : Int32) (u_320 : Int64) (u_321 : Int32) (u_322 : Int32) (u_323 : Int32) (u_324 : Int32) =>
    lt1 (y_X5_floorNamed u_320 h0_draft_floors F_h0_draft_floorName) fun (r_330 : Int32) =>
    lt8 (y_X6_takeFound r_330 h0_reader_length u_318 u_319 u_320 h0_reader_mostBytes u_321 u_322 u_323 u_324 F_h0_reader_bytes) fun (r_334 : Int32) (u_336 : Int32) (u_337 : Int32) (u_338 : Int64) (u_339 : Int32) (u_340 : Int32) (u_341 : Int32) (u_342 : Int32) =>
    if (r_334 : Int32) = (-1) then (
     lt1 (y_X6_isBroken u_336) fun (r_370 : Int32) =>
     if (r_370 : Int32) = 0 then (
      (0, 0, 0, 0, 0, 0, 0, 0, (fun _ => 0), (fun _ => 0))
     ) else (
      (h0_draft_cases, u_336, u_337, u_338, u_339, u_340, u_341, u_342, F_h0_draft_caseName, F_h0_draft_caseFloor)
     )
    ) else (
     lt7 (y_X6_takeSign 59 h0_reader_length u_336 u_337 u_338 h0_reader_mostBytes u_339 u_340 u_341 u_342 F_h0_reader_bytes) fun (u_381 : Int32) (u_382 : Int32) (u_383 : Int64) (u_384 : Int32) (u_385 : Int32) (u_386 : Int32) (u_387 : Int32) =>
     lt1 (y_X6_isBroken u_381) fun (r_393 : Int32) =>
     if (r_393 : Int32) = 0 then (
      lt1 (vp_updL F_h0_draft_caseName (h0_draft_cases : Int32).toNatClampNeg (r_316 : Int64)) fun (g_401 : Nat → Int64) =>
      lt1 (upd F_h0_draft_caseFloor (h0_draft_cases : Int32).toNatClampNeg (r_330 : Int32)) fun (g_402 : Nat → Int32) =>
      lt1 ((h0_draft_cases : Int32) + 1) fun (x_404 : Int32) =>
      (x_404, u_381, u_382, u_383, u_384, u_385, u_386, u_387, g_401, g_402)
     ) else (
      (h0_draft_cases, u_381, u_382, u_383, u_384, u_385, u_386, u_387, F_h0_draft_caseName, F_h0_draft_caseFloor)
     )
    )
   ) else (
    lt8 (y_X6_takeNewName 0 h0_reader_length h0_reader_faultKind h0_reader_faultAt u_302 h0_reader_mostBytes u_303 u_304 u_305 u_306 F_h0_reader_bytes) fun (r_407 : Int64) (u_409 : Int32) (u_410 : Int32) (u_411 : Int64) (u_412 : Int32) (u_413 : Int32) (u_414 : Int32) (u_415 : Int32) =>
    lt1 (y_X5_floorNamed u_411 h0_draft_floors F_h0_draft_floorName) fun (r_421 : Int32) =>
    lt8 (y_X6_takeFound r_421 h0_reader_length u_409 u_410 u_411 h0_reader_mostBytes u_412 u_413 u_414 u_415 F_h0_reader_bytes) fun (r_425 : Int32) (u_427 : Int32) (u_428 : Int32) (u_429 : Int64) (u_430 : Int32) (u_431 : Int32) (u_432 : Int32) (u_433 : Int32) =>
    if (r_425 : Int32) = (-1) then (
     lt1 (y_X6_isBroken u_427) fun (r_461 : Int32) =>
     if (r_461 : Int32) = 0 then (
      (0, 0, 0, 0, 0, 0, 0, 0, (fun _ => 0), (fun _ => 0))
     ) else (
      (h0_draft_cases, u_427, u_428, u_429, u_430, u_431, u_432, u_433, F_h0_draft_caseName, F_h0_draft_caseFloor)
     )
    ) else (
     lt7 (y_X6_takeSign 59 h0_reader_length u_427 u_428 u_429 h0_reader_mostBytes u_430 u_431 u_432 u_433 F_h0_reader_bytes) fun (u_472 : Int32) (u_473 : Int32) (u_474 : Int64) (u_475 : Int32) (u_476 : Int32) (u_477 : Int32) (u_478 : Int32) =>
     lt1 (y_X6_isBroken u_472) fun (r_484 : Int32) =>
     if (r_484 : Int32) = 0 then (
      lt1 (vp_updL F_h0_draft_caseName (h0_draft_cases : Int32).toNatClampNeg (r_407 : Int64)) fun (g_492 : Nat → Int64) =>
      lt1 (upd F_h0_draft_caseFloor (h0_draft_cases : Int32).toNatClampNeg (r_421 : Int32)) fun (g_493 : Nat → Int32) =>
      lt1 ((h0_draft_cases : Int32) + 1) fun (x_495 : Int32) =>
      (x_495, u_472, u_473, u_474, u_475, u_476, u_477, u_478, g_492, g_493)
     ) else (
      (h0_draft_cases, u_472, u_473, u_474, u_475, u_476, u_477, u_478, F_h0_draft_caseName, F_h0_draft_caseFloor)
     )
    )
   )
  ) else (
   lt4 (y_X6_fail 4 h0_reader_faultKind h0_reader_faultAt h0_reader_letters h0_reader_at h0_reader_kind) fun (u_502 : Int32) (u_503 : Int32) (u_504 : Int64) (u_505 : Int32) =>
   lt1 (y_X5_isTold u_504 h0_draft_jurors h0_draft_floors h0_draft_cases F_h0_draft_jurorName F_h0_draft_floorName F_h0_draft_caseName) fun (r_511 : Int32) =>
   if (r_511 : Int32) = 1 then (
    lt1 (y_X6_takeNewName_br 1 u_504 u_505) fun (r_517 : Int64) =>
    lt1 (y_X5_floorNamed u_504 h0_draft_floors F_h0_draft_floorName) fun (r_520 : Int32) =>
    lt1 (y_X6_takeFound_br r_520 u_504 u_505) fun (r_524 : Int32) =>
    if (r_524 : Int32) = (-1) then (
     lt1 (y_X6_isBroken u_502) fun (r_536 : Int32) =>
     if (r_536 : Int32) = 0 then (
      (0, 0, 0, 0, 0, 0, 0, 0, (fun _ => 0), (fun _ => 0))
     ) else (
      (h0_draft_cases, u_502, u_503, u_504, h0_reader_behind, h0_reader_at, u_505, h0_reader_number, F_h0_draft_caseName, F_h0_draft_caseFloor)
     )
    ) else (
     lt1 (y_X6_isBroken u_502) fun (r_547 : Int32) =>
     if (r_547 : Int32) = 0 then (
      (0, 0, 0, 0, 0, 0, 0, 0, (fun _ => 0), (fun _ => 0))
     ) else (
      (h0_draft_cases, u_502, u_503, u_504, h0_reader_behind, h0_reader_at, u_505, h0_reader_number, F_h0_draft_caseName, F_h0_draft_caseFloor)
     )
    )
   ) else (
    lt1 (y_X6_takeNewName_br 0 u_504 u_505) fun (r_555 : Int64) =>
    lt1 (y_X5_floorNamed u_504 h0_draft_floors F_h0_draft_floorName) fun (r_558 : Int32) =>
    lt1 (y_X6_takeFound_br r_558 u_504 u_505) fun (r_562 : Int32) =>
    if (r_562 : Int32) = (-1) then (
     lt1 (y_X6_isBroken u_502) fun (r_574 : Int32) =>
     if (r_574 : Int32) = 0 then (
      (0, 0, 0, 0, 0, 0, 0, 0, (fun _ => 0), (fun _ => 0))
     ) else (
      (h0_draft_cases, u_502, u_503, u_504, h0_reader_behind, h0_reader_at, u_505, h0_reader_number, F_h0_draft_caseName, F_h0_draft_caseFloor)
     )
    ) else (
     lt1 (y_X6_isBroken u_502) fun (r_585 : Int32) =>
     if (r_585 : Int32) = 0 then (
      (0, 0, 0, 0, 0, 0, 0, 0, (fun _ => 0), (fun _ => 0))
     ) else (
      (h0_draft_cases, u_502, u_503, u_504, h0_reader_behind, h0_reader_at, u_505, h0_reader_number, F_h0_draft_caseName, F_h0_draft_caseFloor)
     )
    )
   )
  )) := rfl
def y_X2_floorNotTunedFor (a1 : Int32) (h0_reader_letters : Int64) (h0_draft_floors : Int32) (F_h0_draft_floorName : Nat → Int64) (F_h0_draft_tuned : Nat → Int32)  : Int32 :=
  lt1 (y_X5_floorNamed h0_reader_letters h0_draft_floors F_h0_draft_floorName) fun (r_27 : Int32) =>
  if (a1 : Int32) = (-1) then (
   (-1)
  ) else (
   if (r_27 : Int32) = (-1) then (
    (-1)
   ) else (
    lt1 ((a1 : Int32) * 4) fun (x_38 : Int32) =>
    lt1 ((x_38 : Int32) + r_27) fun (x_41 : Int32) =>
    lt1 (F_h0_draft_tuned (x_41 : Int32).toNatClampNeg) fun (x_44 : Int32) =>
    if (x_44 : Int32) = (-1) then (
     r_27
    ) else (
     (-1)
    )
   )
  )
theorem y_X2_floorNotTunedFor_s (a1 : Int32) (h0_reader_letters : Int64) (h0_draft_floors : Int32) (F_h0_draft_floorName : Nat → Int64) (F_h0_draft_tuned : Nat → Int32)  : y_X2_floorNotTunedFor a1 h0_reader_letters h0_draft_floors F_h0_draft_floorName F_h0_draft_tuned = (
  lt1 (y_X5_floorNamed h0_reader_letters h0_draft_floors F_h0_draft_floorName) fun (r_27 : Int32) =>
  if (a1 : Int32) = (-1) then (
   (-1)
  ) else (
   if (r_27 : Int32) = (-1) then (
    (-1)
   ) else (
    lt1 ((a1 : Int32) * 4) fun (x_38 : Int32) =>
    lt1 ((x_38 : Int32) + r_27) fun (x_41 : Int32) =>
    lt1 (F_h0_draft_tuned (x_41 : Int32).toNatClampNeg) fun (x_44 : Int32) =>
    if (x_44 : Int32) = (-1) then (
     r_27
    ) else (
     (-1)
    )
   )
  )) := rfl
def y_X2_readTuned (h0_reader_length : Int32) (h0_reader_faultKind : Int32) (h0_reader_faultAt : Int32) (h0_reader_letters : Int64) (h0_reader_mostBytes : Int32) (h0_reader_behind : Int32) (h0_reader_at : Int32) (h0_reader_kind : Int32) (h0_reader_number : Int32) (F_h0_reader_bytes : Nat → Int32) (h0_draft_jurors : Int32) (h0_draft_floors : Int32) (F_h0_draft_jurorName : Nat → Int64) (F_h0_draft_floorName : Nat → Int64) (F_h0_draft_tuned : Nat → Int32)  : Int32 × Int32 × Int64 × Int32 × Int32 × Int32 × Int32 × (Nat → Int32) :=
  lt5 (y_X6_advance h0_reader_length h0_reader_faultKind h0_reader_letters h0_reader_mostBytes h0_reader_behind h0_reader_at h0_reader_kind h0_reader_number F_h0_reader_bytes) fun (u_188 : Int64) (u_189 : Int32) (u_190 : Int32) (u_191 : Int32) (u_192 : Int32) =>
  lt1 (y_X5_jurorNamed u_188 h0_draft_jurors F_h0_draft_jurorName) fun (r_196 : Int32) =>
  lt8 (y_X6_takeFound r_196 h0_reader_length h0_reader_faultKind h0_reader_faultAt u_188 h0_reader_mostBytes u_189 u_190 u_191 u_192 F_h0_reader_bytes) fun (r_200 : Int32) (u_202 : Int32) (u_203 : Int32) (u_204 : Int64) (u_205 : Int32) (u_206 : Int32) (u_207 : Int32) (u_208 : Int32) =>
  if (r_200 : Int32) = (-1) then (
   lt1 (y_X2_floorNotTunedFor (-1) u_204 h0_draft_floors F_h0_draft_floorName F_h0_draft_tuned) fun (r_234 : Int32) =>
   lt1 (y_X6_takeFound_br r_234 u_204 u_207) fun (r_238 : Int32) =>
   if (r_238 : Int32) = (-1) then (
    lt1 (y_X6_takeNumber_br 0 60 u_207 u_208) fun (r_248 : Int32) =>
    lt1 (y_X6_isBroken u_202) fun (r_253 : Int32) =>
    if (r_253 : Int32) = 0 then (
     (0, 0, 0, 0, 0, 0, 0, (fun _ => 0))
    ) else (
     (u_202, u_203, u_204, u_205, u_206, u_207, u_208, F_h0_draft_tuned)
    )
   ) else (
    lt1 (y_X6_takeNumber_br 0 60 u_207 u_208) fun (r_262 : Int32) =>
    lt1 (y_X6_isBroken u_202) fun (r_267 : Int32) =>
    if (r_267 : Int32) = 0 then (
     (0, 0, 0, 0, 0, 0, 0, (fun _ => 0))
    ) else (
     (u_202, u_203, u_204, u_205, u_206, u_207, u_208, F_h0_draft_tuned)
    )
   )
  ) else (
   lt1 (y_X2_floorNotTunedFor r_196 u_204 h0_draft_floors F_h0_draft_floorName F_h0_draft_tuned) fun (r_276 : Int32) =>
   lt8 (y_X6_takeFound r_276 h0_reader_length u_202 u_203 u_204 h0_reader_mostBytes u_205 u_206 u_207 u_208 F_h0_reader_bytes) fun (r_280 : Int32) (u_282 : Int32) (u_283 : Int32) (u_284 : Int64) (u_285 : Int32) (u_286 : Int32) (u_287 : Int32) (u_288 : Int32) =>
   if (r_280 : Int32) = (-1) then (
    lt1 (y_X6_takeNumber_br 0 60 u_287 u_288) fun (r_314 : Int32) =>
    lt1 (y_X6_isBroken u_282) fun (r_319 : Int32) =>
    if (r_319 : Int32) = 0 then (
     (0, 0, 0, 0, 0, 0, 0, (fun _ => 0))
    ) else (
     (u_282, u_283, u_284, u_285, u_286, u_287, u_288, F_h0_draft_tuned)
    )
   ) else (
    lt8 (y_X6_takeNumber 0 60 h0_reader_length u_282 u_283 u_284 h0_reader_mostBytes u_285 u_286 u_287 u_288 F_h0_reader_bytes) fun (r_328 : Int32) (u_330 : Int32) (u_331 : Int32) (u_332 : Int64) (u_333 : Int32) (u_334 : Int32) (u_335 : Int32) (u_336 : Int32) =>
    lt7 (y_X6_takeSign 59 h0_reader_length u_330 u_331 u_332 h0_reader_mostBytes u_333 u_334 u_335 u_336 F_h0_reader_bytes) fun (u_344 : Int32) (u_345 : Int32) (u_346 : Int64) (u_347 : Int32) (u_348 : Int32) (u_349 : Int32) (u_350 : Int32) =>
    lt1 (y_X6_isBroken u_344) fun (r_356 : Int32) =>
    if (r_356 : Int32) = 0 then (
     lt1 ((r_196 : Int32) * 4) fun (x_364 : Int32) =>
     lt1 ((x_364 : Int32) + r_276) fun (x_367 : Int32) =>
     lt1 (upd F_h0_draft_tuned (x_367 : Int32).toNatClampNeg (r_328 : Int32)) fun (g_370 : Nat → Int32) =>
     (u_344, u_345, u_346, u_347, u_348, u_349, u_350, g_370)
    ) else (
     (u_344, u_345, u_346, u_347, u_348, u_349, u_350, F_h0_draft_tuned)
    )
   )
  )
theorem y_X2_readTuned_s (h0_reader_length : Int32) (h0_reader_faultKind : Int32) (h0_reader_faultAt : Int32) (h0_reader_letters : Int64) (h0_reader_mostBytes : Int32) (h0_reader_behind : Int32) (h0_reader_at : Int32) (h0_reader_kind : Int32) (h0_reader_number : Int32) (F_h0_reader_bytes : Nat → Int32) (h0_draft_jurors : Int32) (h0_draft_floors : Int32) (F_h0_draft_jurorName : Nat → Int64) (F_h0_draft_floorName : Nat → Int64) (F_h0_draft_tuned : Nat → Int32)  : y_X2_readTuned h0_reader_length h0_reader_faultKind h0_reader_faultAt h0_reader_letters h0_reader_mostBytes h0_reader_behind h0_reader_at h0_reader_kind h0_reader_number F_h0_reader_bytes h0_draft_jurors h0_draft_floors F_h0_draft_jurorName F_h0_draft_floorName F_h0_draft_tuned = (
  lt5 (y_X6_advance h0_reader_length h0_reader_faultKind h0_reader_letters h0_reader_mostBytes h0_reader_behind h0_reader_at h0_reader_kind h0_reader_number F_h0_reader_bytes) fun (u_188 : Int64) (u_189 : Int32) (u_190 : Int32) (u_191 : Int32) (u_192 : Int32) =>
  lt1 (y_X5_jurorNamed u_188 h0_draft_jurors F_h0_draft_jurorName) fun (r_196 : Int32) =>
  lt8 (y_X6_takeFound r_196 h0_reader_length h0_reader_faultKind h0_reader_faultAt u_188 h0_reader_mostBytes u_189 u_190 u_191 u_192 F_h0_reader_bytes) fun (r_200 : Int32) (u_202 : Int32) (u_203 : Int32) (u_204 : Int64) (u_205 : Int32) (u_206 : Int32) (u_207 : Int32) (u_208 : Int32) =>
  if (r_200 : Int32) = (-1) then (
   lt1 (y_X2_floorNotTunedFor (-1) u_204 h0_draft_floors F_h0_draft_floorName F_h0_draft_tuned) fun (r_234 : Int32) =>
   lt1 (y_X6_takeFound_br r_234 u_204 u_207) fun (r_238 : Int32) =>
   if (r_238 : Int32) = (-1) then (
    lt1 (y_X6_takeNumber_br 0 60 u_207 u_208) fun (r_248 : Int32) =>
    lt1 (y_X6_isBroken u_202) fun (r_253 : Int32) =>
    if (r_253 : Int32) = 0 then (
     (0, 0, 0, 0, 0, 0, 0, (fun _ => 0))
    ) else (
     (u_202, u_203, u_204, u_205, u_206, u_207, u_208, F_h0_draft_tuned)
    )
   ) else (
    lt1 (y_X6_takeNumber_br 0 60 u_207 u_208) fun (r_262 : Int32) =>
    lt1 (y_X6_isBroken u_202) fun (r_267 : Int32) =>
    if (r_267 : Int32) = 0 then (
     (0, 0, 0, 0, 0, 0, 0, (fun _ => 0))
    ) else (
     (u_202, u_203, u_204, u_205, u_206, u_207, u_208, F_h0_draft_tuned)
    )
   )
  ) else (
   lt1 (y_X2_floorNotTunedFor r_196 u_204 h0_draft_floors F_h0_draft_floorName F_h0_draft_tuned) fun (r_276 : Int32) =>
   lt8 (y_X6_takeFound r_276 h0_reader_length u_202 u_203 u_204 h0_reader_mostBytes u_205 u_206 u_207 u_208 F_h0_reader_bytes) fun (r_280 : Int32) (u_282 : Int32) (u_283 : Int32) (u_284 : Int64) (u_285 : Int32) (u_286 : Int32) (u_287 : Int32) (u_288 : Int32) =>
   if (r_280 : Int32) = (-1) then (
    lt1 (y_X6_takeNumber_br 0 60 u_287 u_288) fun (r_314 : Int32) =>
    lt1 (y_X6_isBroken u_282) fun (r_319 : Int32) =>
    if (r_319 : Int32) = 0 then (
     (0, 0, 0, 0, 0, 0, 0, (fun _ => 0))
    ) else (
     (u_282, u_283, u_284, u_285, u_286, u_287, u_288, F_h0_draft_tuned)
    )
   ) else (
    lt8 (y_X6_takeNumber 0 60 h0_reader_length u_282 u_283 u_284 h0_reader_mostBytes u_285 u_286 u_287 u_288 F_h0_reader_bytes) fun (r_328 : Int32) (u_330 : Int32) (u_331 : Int32) (u_332 : Int64) (u_333 : Int32) (u_334 : Int32) (u_335 : Int32) (u_336 : Int32) =>
    lt7 (y_X6_takeSign 59 h0_reader_length u_330 u_331 u_332 h0_reader_mostBytes u_333 u_334 u_335 u_336 F_h0_reader_bytes) fun (u_344 : Int32) (u_345 : Int32) (u_346 : Int64) (u_347 : Int32) (u_348 : Int32) (u_349 : Int32) (u_350 : Int32) =>
    lt1 (y_X6_isBroken u_344) fun (r_356 : Int32) =>
    if (r_356 : Int32) = 0 then (
     lt1 ((r_196 : Int32) * 4) fun (x_364 : Int32) =>
     lt1 ((x_364 : Int32) + r_276) fun (x_367 : Int32) =>
     lt1 (upd F_h0_draft_tuned (x_367 : Int32).toNatClampNeg (r_328 : Int32)) fun (g_370 : Nat → Int32) =>
     (u_344, u_345, u_346, u_347, u_348, u_349, u_350, g_370)
    ) else (
     (u_344, u_345, u_346, u_347, u_348, u_349, u_350, F_h0_draft_tuned)
    )
   )
  )) := rfl
def y_X2_readOne (h0_toldOne : Int32) (h0_reader_length : Int32) (h0_reader_faultKind : Int32) (h0_reader_faultAt : Int32) (h0_reader_letters : Int64) (h0_reader_mostBytes : Int32) (h0_reader_behind : Int32) (h0_reader_at : Int32) (h0_reader_kind : Int32) (h0_reader_number : Int32) (F_h0_reader_bytes : Nat → Int32)  : Int32 × Int32 × Int64 × Int32 × Int32 × Int32 × Int32 × Int32 :=
  if (h0_toldOne : Int32) = 0 then (
   lt5 (y_X6_advance h0_reader_length h0_reader_faultKind h0_reader_letters h0_reader_mostBytes h0_reader_behind h0_reader_at h0_reader_kind h0_reader_number F_h0_reader_bytes) fun (u_66 : Int64) (u_67 : Int32) (u_68 : Int32) (u_69 : Int32) (u_70 : Int32) =>
   lt8 (y_X6_takeNumber 0 20 h0_reader_length h0_reader_faultKind h0_reader_faultAt u_66 h0_reader_mostBytes u_67 u_68 u_69 u_70 F_h0_reader_bytes) fun (r_74 : Int32) (u_76 : Int32) (u_77 : Int32) (u_78 : Int64) (u_79 : Int32) (u_80 : Int32) (u_81 : Int32) (u_82 : Int32) =>
   lt7 (y_X6_takeSign 59 h0_reader_length u_76 u_77 u_78 h0_reader_mostBytes u_79 u_80 u_81 u_82 F_h0_reader_bytes) fun (u_90 : Int32) (u_91 : Int32) (u_92 : Int64) (u_93 : Int32) (u_94 : Int32) (u_95 : Int32) (u_96 : Int32) =>
   (u_90, u_91, u_92, u_93, u_94, u_95, u_96, r_74)
  ) else (
   lt4 (y_X6_fail 3 h0_reader_faultKind h0_reader_faultAt h0_reader_letters h0_reader_at h0_reader_kind) fun (u_105 : Int32) (u_106 : Int32) (u_107 : Int64) (u_108 : Int32) =>
   lt1 (y_X6_takeNumber_br 0 20 u_108 h0_reader_number) fun (r_114 : Int32) =>
   (u_105, u_106, u_107, h0_reader_behind, h0_reader_at, u_108, h0_reader_number, r_114)
  )
theorem y_X2_readOne_s (h0_toldOne : Int32) (h0_reader_length : Int32) (h0_reader_faultKind : Int32) (h0_reader_faultAt : Int32) (h0_reader_letters : Int64) (h0_reader_mostBytes : Int32) (h0_reader_behind : Int32) (h0_reader_at : Int32) (h0_reader_kind : Int32) (h0_reader_number : Int32) (F_h0_reader_bytes : Nat → Int32)  : y_X2_readOne h0_toldOne h0_reader_length h0_reader_faultKind h0_reader_faultAt h0_reader_letters h0_reader_mostBytes h0_reader_behind h0_reader_at h0_reader_kind h0_reader_number F_h0_reader_bytes = (
  if (h0_toldOne : Int32) = 0 then (
   lt5 (y_X6_advance h0_reader_length h0_reader_faultKind h0_reader_letters h0_reader_mostBytes h0_reader_behind h0_reader_at h0_reader_kind h0_reader_number F_h0_reader_bytes) fun (u_66 : Int64) (u_67 : Int32) (u_68 : Int32) (u_69 : Int32) (u_70 : Int32) =>
   lt8 (y_X6_takeNumber 0 20 h0_reader_length h0_reader_faultKind h0_reader_faultAt u_66 h0_reader_mostBytes u_67 u_68 u_69 u_70 F_h0_reader_bytes) fun (r_74 : Int32) (u_76 : Int32) (u_77 : Int32) (u_78 : Int64) (u_79 : Int32) (u_80 : Int32) (u_81 : Int32) (u_82 : Int32) =>
   lt7 (y_X6_takeSign 59 h0_reader_length u_76 u_77 u_78 h0_reader_mostBytes u_79 u_80 u_81 u_82 F_h0_reader_bytes) fun (u_90 : Int32) (u_91 : Int32) (u_92 : Int64) (u_93 : Int32) (u_94 : Int32) (u_95 : Int32) (u_96 : Int32) =>
   (u_90, u_91, u_92, u_93, u_94, u_95, u_96, r_74)
  ) else (
   lt4 (y_X6_fail 3 h0_reader_faultKind h0_reader_faultAt h0_reader_letters h0_reader_at h0_reader_kind) fun (u_105 : Int32) (u_106 : Int32) (u_107 : Int64) (u_108 : Int32) =>
   lt1 (y_X6_takeNumber_br 0 20 u_108 h0_reader_number) fun (r_114 : Int32) =>
   (u_105, u_106, u_107, h0_reader_behind, h0_reader_at, u_108, h0_reader_number, r_114)
  )) := rfl
def y_X2_readDent (h0_toldDent : Int32) (h0_reader_length : Int32) (h0_reader_faultKind : Int32) (h0_reader_faultAt : Int32) (h0_reader_letters : Int64) (h0_reader_mostBytes : Int32) (h0_reader_behind : Int32) (h0_reader_at : Int32) (h0_reader_kind : Int32) (h0_reader_number : Int32) (F_h0_reader_bytes : Nat → Int32)  : Int32 × Int32 × Int64 × Int32 × Int32 × Int32 × Int32 × Int32 :=
  if (h0_toldDent : Int32) = 0 then (
   lt5 (y_X6_advance h0_reader_length h0_reader_faultKind h0_reader_letters h0_reader_mostBytes h0_reader_behind h0_reader_at h0_reader_kind h0_reader_number F_h0_reader_bytes) fun (u_66 : Int64) (u_67 : Int32) (u_68 : Int32) (u_69 : Int32) (u_70 : Int32) =>
   lt8 (y_X6_takeNumber 0 9 h0_reader_length h0_reader_faultKind h0_reader_faultAt u_66 h0_reader_mostBytes u_67 u_68 u_69 u_70 F_h0_reader_bytes) fun (r_74 : Int32) (u_76 : Int32) (u_77 : Int32) (u_78 : Int64) (u_79 : Int32) (u_80 : Int32) (u_81 : Int32) (u_82 : Int32) =>
   lt7 (y_X6_takeSign 59 h0_reader_length u_76 u_77 u_78 h0_reader_mostBytes u_79 u_80 u_81 u_82 F_h0_reader_bytes) fun (u_90 : Int32) (u_91 : Int32) (u_92 : Int64) (u_93 : Int32) (u_94 : Int32) (u_95 : Int32) (u_96 : Int32) =>
   (u_90, u_91, u_92, u_93, u_94, u_95, u_96, r_74)
  ) else (
   lt4 (y_X6_fail 3 h0_reader_faultKind h0_reader_faultAt h0_reader_letters h0_reader_at h0_reader_kind) fun (u_105 : Int32) (u_106 : Int32) (u_107 : Int64) (u_108 : Int32) =>
   lt1 (y_X6_takeNumber_br 0 9 u_108 h0_reader_number) fun (r_114 : Int32) =>
   (u_105, u_106, u_107, h0_reader_behind, h0_reader_at, u_108, h0_reader_number, r_114)
  )
theorem y_X2_readDent_s (h0_toldDent : Int32) (h0_reader_length : Int32) (h0_reader_faultKind : Int32) (h0_reader_faultAt : Int32) (h0_reader_letters : Int64) (h0_reader_mostBytes : Int32) (h0_reader_behind : Int32) (h0_reader_at : Int32) (h0_reader_kind : Int32) (h0_reader_number : Int32) (F_h0_reader_bytes : Nat → Int32)  : y_X2_readDent h0_toldDent h0_reader_length h0_reader_faultKind h0_reader_faultAt h0_reader_letters h0_reader_mostBytes h0_reader_behind h0_reader_at h0_reader_kind h0_reader_number F_h0_reader_bytes = (
  if (h0_toldDent : Int32) = 0 then (
   lt5 (y_X6_advance h0_reader_length h0_reader_faultKind h0_reader_letters h0_reader_mostBytes h0_reader_behind h0_reader_at h0_reader_kind h0_reader_number F_h0_reader_bytes) fun (u_66 : Int64) (u_67 : Int32) (u_68 : Int32) (u_69 : Int32) (u_70 : Int32) =>
   lt8 (y_X6_takeNumber 0 9 h0_reader_length h0_reader_faultKind h0_reader_faultAt u_66 h0_reader_mostBytes u_67 u_68 u_69 u_70 F_h0_reader_bytes) fun (r_74 : Int32) (u_76 : Int32) (u_77 : Int32) (u_78 : Int64) (u_79 : Int32) (u_80 : Int32) (u_81 : Int32) (u_82 : Int32) =>
   lt7 (y_X6_takeSign 59 h0_reader_length u_76 u_77 u_78 h0_reader_mostBytes u_79 u_80 u_81 u_82 F_h0_reader_bytes) fun (u_90 : Int32) (u_91 : Int32) (u_92 : Int64) (u_93 : Int32) (u_94 : Int32) (u_95 : Int32) (u_96 : Int32) =>
   (u_90, u_91, u_92, u_93, u_94, u_95, u_96, r_74)
  ) else (
   lt4 (y_X6_fail 3 h0_reader_faultKind h0_reader_faultAt h0_reader_letters h0_reader_at h0_reader_kind) fun (u_105 : Int32) (u_106 : Int32) (u_107 : Int64) (u_108 : Int32) =>
   lt1 (y_X6_takeNumber_br 0 9 u_108 h0_reader_number) fun (r_114 : Int32) =>
   (u_105, u_106, u_107, h0_reader_behind, h0_reader_at, u_108, h0_reader_number, r_114)
  )) := rfl
def y_X2_readLine (h0_toldOne : Int32) (h0_toldDent : Int32) (h0_reader_length : Int32) (h0_reader_faultKind : Int32) (h0_reader_faultAt : Int32) (h0_reader_letters : Int64) (h0_reader_mostBytes : Int32) (h0_reader_behind : Int32) (h0_reader_at : Int32) (h0_reader_kind : Int32) (h0_reader_number : Int32) (F_h0_reader_bytes : Nat → Int32) (h0_draft_jurors : Int32) (h0_draft_floors : Int32) (h0_draft_cases : Int32) (h0_draft_one : Int32) (h0_draft_dent : Int32) (h0_draft_seated : Int32) (F_h0_draft_jurorName : Nat → Int64) (F_h0_draft_floorName : Nat → Int64) (F_h0_draft_tuned : Nat → Int32) (F_h0_draft_caseName : Nat → Int64) (F_h0_draft_caseFloor : Nat → Int32) (F_h0_draft_tune : Nat → Int32) (F_h0_draft_dull : Nat → Int32) (F_h0_draft_pitch : Nat → Int32) (F_h0_draft_length : Nat → Int32) (F_h0_draft_hands : Nat → Int32)  : Int32 × Int32 × Int32 × Int32 × Int64 × Int32 × Int32 × Int32 × Int32 × Int32 × Int32 × Int32 × Int32 × Int32 × Int32 × (Nat → Int64) × (Nat → Int64) × (Nat → Int32) × (Nat → Int64) × (Nat → Int32) × (Nat → Int32) × (Nat → Int32) × (Nat → Int32) × (Nat → Int32) × (Nat → Int32) :=
  lt1 (y_X6_sees h0_reader_letters h0_reader_kind 0) fun (r_167 : Int32) =>
  if (r_167 : Int32) = 0 then (
   lt1 (y_X6_sees h0_reader_letters h0_reader_kind 2) fun (r_174 : Int32) =>
   if (r_174 : Int32) = 0 then (
    lt1 (y_X6_sees h0_reader_letters h0_reader_kind 3) fun (r_181 : Int32) =>
    if (r_181 : Int32) = 0 then (
     lt1 (y_X6_sees h0_reader_letters h0_reader_kind 4) fun (r_188 : Int32) =>
     if (r_188 : Int32) = 0 then (
      lt1 (y_X6_sees h0_reader_letters h0_reader_kind 5) fun (r_195 : Int32) =>
      if (r_195 : Int32) = 0 then (
       lt1 (y_X6_sees h0_reader_letters h0_reader_kind 6) fun (r_202 : Int32) =>
       if (r_202 : Int32) = 0 then (
        lt4 (y_X6_fail 1 h0_reader_faultKind h0_reader_faultAt h0_reader_letters h0_reader_at h0_reader_kind) fun (u_211 : Int32) (u_212 : Int32) (u_213 : Int64) (u_214 : Int32) =>
        (h0_toldOne, h0_toldDent, u_211, u_212, u_213, h0_reader_behind, h0_reader_at, u_214, h0_reader_number, h0_draft_jurors, h0_draft_floors, h0_draft_cases, h0_draft_one, h0_draft_dent, h0_draft_seated, F_h0_draft_jurorName, F_h0_draft_floorName, F_h0_draft_tuned, F_h0_draft_caseName, F_h0_draft_caseFloor, F_h0_draft_tune, F_h0_draft_dull, F_h0_draft_pitch, F_h0_draft_length, F_h0_draft_hands)
       ) else (
        lt8 (y_X2_readDent h0_toldDent h0_reader_length h0_reader_faultKind h0_reader_faultAt h0_reader_letters h0_reader_mostBytes h0_reader_behind h0_reader_at h0_reader_kind h0_reader_number F_h0_reader_bytes) fun (u_220 : Int32) (u_221 : Int32) (u_222 : Int64) (u_223 : Int32) (u_224 : Int32) (u_225 : Int32) (u_226 : Int32) (u_227 : Int32) =>
        (h0_toldOne, 1, u_220, u_221, u_222, u_223, u_224, u_225, u_226, h0_draft_jurors, h0_draft_floors, h0_draft_cases, h0_draft_one, u_227, h0_draft_seated, F_h0_draft_jurorName, F_h0_draft_floorName, F_h0_draft_tuned, F_h0_draft_caseName, F_h0_draft_caseFloor, F_h0_draft_tune, F_h0_draft_dull, F_h0_draft_pitch, F_h0_draft_length, F_h0_draft_hands)
       )
      ) else (
       lt8 (y_X2_readOne h0_toldOne h0_reader_length h0_reader_faultKind h0_reader_faultAt h0_reader_letters h0_reader_mostBytes h0_reader_behind h0_reader_at h0_reader_kind h0_reader_number F_h0_reader_bytes) fun (u_235 : Int32) (u_236 : Int32) (u_237 : Int64) (u_238 : Int32) (u_239 : Int32) (u_240 : Int32) (u_241 : Int32) (u_242 : Int32) =>
       (1, h0_toldDent, u_235, u_236, u_237, u_238, u_239, u_240, u_241, h0_draft_jurors, h0_draft_floors, h0_draft_cases, u_242, h0_draft_dent, h0_draft_seated, F_h0_draft_jurorName, F_h0_draft_floorName, F_h0_draft_tuned, F_h0_draft_caseName, F_h0_draft_caseFloor, F_h0_draft_tune, F_h0_draft_dull, F_h0_draft_pitch, F_h0_draft_length, F_h0_draft_hands)
      )
     ) else (
      lt8 (y_X2_readTuned h0_reader_length h0_reader_faultKind h0_reader_faultAt h0_reader_letters h0_reader_mostBytes h0_reader_behind h0_reader_at h0_reader_kind h0_reader_number F_h0_reader_bytes h0_draft_jurors h0_draft_floors F_h0_draft_jurorName F_h0_draft_floorName F_h0_draft_tuned) fun (u_250 : Int32) (u_251 : Int32) (u_252 : Int64) (u_253 : Int32) (u_254 : Int32) (u_255 : Int32) (u_256 : Int32) (u_257 : Nat → Int32) =>
      (h0_toldOne, h0_toldDent, u_250, u_251, u_252, u_253, u_254, u_255, u_256, h0_draft_jurors, h0_draft_floors, h0_draft_cases, h0_draft_one, h0_draft_dent, h0_draft_seated, F_h0_draft_jurorName, F_h0_draft_floorName, u_257, F_h0_draft_caseName, F_h0_draft_caseFloor, F_h0_draft_tune, F_h0_draft_dull, F_h0_draft_pitch, F_h0_draft_length, F_h0_draft_hands)
     )
    ) else (
     lt10 (y_X2_readCase h0_draft_jurors h0_draft_floors h0_draft_cases h0_reader_length h0_reader_faultKind h0_reader_faultAt h0_reader_letters h0_reader_mostBytes h0_reader_behind h0_reader_at h0_reader_kind h0_reader_number F_h0_reader_bytes F_h0_draft_jurorName F_h0_draft_floorName F_h0_draft_caseName F_h0_draft_caseFloor) fun (u_265 : Int32) (u_266 : Int32) (u_267 : Int32) (u_268 : Int64) (u_269 : Int32) (u_270 : Int32) (u_271 : Int32) (u_272 : Int32) (u_273 : Nat → Int64) (u_274 : Nat → Int32) =>
     (h0_toldOne, h0_toldDent, u_266, u_267, u_268, u_269, u_270, u_271, u_272, h0_draft_jurors, h0_draft_floors, u_265, h0_draft_one, h0_draft_dent, h0_draft_seated, F_h0_draft_jurorName, F_h0_draft_floorName, F_h0_draft_tuned, u_273, u_274, F_h0_draft_tune, F_h0_draft_dull, F_h0_draft_pitch, F_h0_draft_length, F_h0_draft_hands)
    )
   ) else (
    lt11 (y_X2_readFloor h0_draft_jurors h0_draft_floors h0_draft_cases h0_reader_length h0_reader_faultKind h0_reader_faultAt h0_reader_letters h0_reader_mostBytes h0_reader_behind h0_reader_at h0_reader_kind h0_reader_number F_h0_reader_bytes F_h0_draft_jurorName F_h0_draft_floorName F_h0_draft_caseName F_h0_draft_tune F_h0_draft_dull) fun (u_286 : Int32) (u_287 : Int32) (u_288 : Int32) (u_289 : Int64) (u_290 : Int32) (u_291 : Int32) (u_292 : Int32) (u_293 : Int32) (u_294 : Nat → Int64) (u_295 : Nat → Int32) (u_296 : Nat → Int32) =>
    (h0_toldOne, h0_toldDent, u_287, u_288, u_289, u_290, u_291, u_292, u_293, h0_draft_jurors, u_286, h0_draft_cases, h0_draft_one, h0_draft_dent, h0_draft_seated, F_h0_draft_jurorName, u_294, F_h0_draft_tuned, F_h0_draft_caseName, F_h0_draft_caseFloor, u_295, u_296, F_h0_draft_pitch, F_h0_draft_length, F_h0_draft_hands)
   )
  ) else (
   lt13 (y_X2_readJuror h0_draft_jurors h0_draft_floors h0_draft_cases h0_draft_seated h0_reader_length h0_reader_faultKind h0_reader_faultAt h0_reader_letters h0_reader_mostBytes h0_reader_behind h0_reader_at h0_reader_kind h0_reader_number F_h0_reader_bytes F_h0_draft_jurorName F_h0_draft_floorName F_h0_draft_caseName F_h0_draft_pitch F_h0_draft_length F_h0_draft_hands) fun (u_311 : Int32) (u_312 : Int32) (u_313 : Int32) (u_314 : Int32) (u_315 : Int64) (u_316 : Int32) (u_317 : Int32) (u_318 : Int32) (u_319 : Int32) (u_320 : Nat → Int64) (u_321 : Nat → Int32) (u_322 : Nat → Int32) (u_323 : Nat → Int32) =>
   (h0_toldOne, h0_toldDent, u_313, u_314, u_315, u_316, u_317, u_318, u_319, u_311, h0_draft_floors, h0_draft_cases, h0_draft_one, h0_draft_dent, u_312, u_320, F_h0_draft_floorName, F_h0_draft_tuned, F_h0_draft_caseName, F_h0_draft_caseFloor, F_h0_draft_tune, F_h0_draft_dull, u_321, u_322, u_323)
  )
theorem y_X2_readLine_s (h0_toldOne : Int32) (h0_toldDent : Int32) (h0_reader_length : Int32) (h0_reader_faultKind : Int32) (h0_reader_faultAt : Int32) (h0_reader_letters : Int64) (h0_reader_mostBytes : Int32) (h0_reader_behind : Int32) (h0_reader_at : Int32) (h0_reader_kind : Int32) (h0_reader_number : Int32) (F_h0_reader_bytes : Nat → Int32) (h0_draft_jurors : Int32) (h0_draft_floors : Int32) (h0_draft_cases : Int32) (h0_draft_one : Int32) (h0_draft_dent : Int32) (h0_draft_seated : Int32) (F_h0_draft_jurorName : Nat → Int64) (F_h0_draft_floorName : Nat → Int64) (F_h0_draft_tuned : Nat → Int32) (F_h0_draft_caseName : Nat → Int64) (F_h0_draft_caseFloor : Nat → Int32) (F_h0_draft_tune : Nat → Int32) (F_h0_draft_dull : Nat → Int32) (F_h0_draft_pitch : Nat → Int32) (F_h0_draft_length : Nat → Int32) (F_h0_draft_hands : Nat → Int32)  : y_X2_readLine h0_toldOne h0_toldDent h0_reader_length h0_reader_faultKind h0_reader_faultAt h0_reader_letters h0_reader_mostBytes h0_reader_behind h0_reader_at h0_reader_kind h0_reader_number F_h0_reader_bytes h0_draft_jurors h0_draft_floors h0_draft_cases h0_draft_one h0_draft_dent h0_draft_seated F_h0_draft_jurorName F_h0_draft_floorName F_h0_draft_tuned F_h0_draft_caseName F_h0_draft_caseFloor F_h0_draft_tune F_h0_draft_dull F_h0_draft_pitch F_h0_draft_length F_h0_draft_hands = (
  lt1 (y_X6_sees h0_reader_letters h0_reader_kind 0) fun (r_167 : Int32) =>
  if (r_167 : Int32) = 0 then (
   lt1 (y_X6_sees h0_reader_letters h0_reader_kind 2) fun (r_174 : Int32) =>
   if (r_174 : Int32) = 0 then (
    lt1 (y_X6_sees h0_reader_letters h0_reader_kind 3) fun (r_181 : Int32) =>
    if (r_181 : Int32) = 0 then (
     lt1 (y_X6_sees h0_reader_letters h0_reader_kind 4) fun (r_188 : Int32) =>
     if (r_188 : Int32) = 0 then (
      lt1 (y_X6_sees h0_reader_letters h0_reader_kind 5) fun (r_195 : Int32) =>
      if (r_195 : Int32) = 0 then (
       lt1 (y_X6_sees h0_reader_letters h0_reader_kind 6) fun (r_202 : Int32) =>
       if (r_202 : Int32) = 0 then (
        lt4 (y_X6_fail 1 h0_reader_faultKind h0_reader_faultAt h0_reader_letters h0_reader_at h0_reader_kind) fun (u_211 : Int32) (u_212 : Int32) (u_213 : Int64) (u_214 : Int32) =>
        (h0_toldOne, h0_toldDent, u_211, u_212, u_213, h0_reader_behind, h0_reader_at, u_214, h0_reader_number, h0_draft_jurors, h0_draft_floors, h0_draft_cases, h0_draft_one, h0_draft_dent, h0_draft_seated, F_h0_draft_jurorName, F_h0_draft_floorName, F_h0_draft_tuned, F_h0_draft_caseName, F_h0_draft_caseFloor, F_h0_draft_tune, F_h0_draft_dull, F_h0_draft_pitch, F_h0_draft_length, F_h0_draft_hands)
       ) else (
        lt8 (y_X2_readDent h0_toldDent h0_reader_length h0_reader_faultKind h0_reader_faultAt h0_reader_letters h0_reader_mostBytes h0_reader_behind h0_reader_at h0_reader_kind h0_reader_number F_h0_reader_bytes) fun (u_220 : Int32) (u_221 : Int32) (u_222 : Int64) (u_223 : Int32) (u_224 : Int32) (u_225 : Int32) (u_226 : Int32) (u_227 : Int32) =>
        (h0_toldOne, 1, u_220, u_221, u_222, u_223, u_224, u_225, u_226, h0_draft_jurors, h0_draft_floors, h0_draft_cases, h0_draft_one, u_227, h0_draft_seated, F_h0_draft_jurorName, F_h0_draft_floorName, F_h0_draft_tuned, F_h0_draft_caseName, F_h0_draft_caseFloor, F_h0_draft_tune, F_h0_draft_dull, F_h0_draft_pitch, F_h0_draft_length, F_h0_draft_hands)
       )
      ) else (
       lt8 (y_X2_readOne h0_toldOne h0_reader_length h0_reader_faultKind h0_reader_faultAt h0_reader_letters h0_reader_mostBytes h0_reader_behind h0_reader_at h0_reader_kind h0_reader_number F_h0_reader_bytes) fun (u_235 : Int32) (u_236 : Int32) (u_237 : Int64) (u_238 : Int32) (u_239 : Int32) (u_240 : Int32) (u_241 : Int32) (u_242 : Int32) =>
       (1, h0_toldDent, u_235, u_236, u_237, u_238, u_239, u_240, u_241, h0_draft_jurors, h0_draft_floors, h0_draft_cases, u_242, h0_draft_dent, h0_draft_seated, F_h0_draft_jurorName, F_h0_draft_floorName, F_h0_draft_tuned, F_h0_draft_caseName, F_h0_draft_caseFloor, F_h0_draft_tune, F_h0_draft_dull, F_h0_draft_pitch, F_h0_draft_length, F_h0_draft_hands)
      )
     ) else (
      lt8 (y_X2_readTuned h0_reader_length h0_reader_faultKind h0_reader_faultAt h0_reader_letters h0_reader_mostBytes h0_reader_behind h0_reader_at h0_reader_kind h0_reader_number F_h0_reader_bytes h0_draft_jurors h0_draft_floors F_h0_draft_jurorName F_h0_draft_floorName F_h0_draft_tuned) fun (u_250 : Int32) (u_251 : Int32) (u_252 : Int64) (u_253 : Int32) (u_254 : Int32) (u_255 : Int32) (u_256 : Int32) (u_257 : Nat → Int32) =>
      (h0_toldOne, h0_toldDent, u_250, u_251, u_252, u_253, u_254, u_255, u_256, h0_draft_jurors, h0_draft_floors, h0_draft_cases, h0_draft_one, h0_draft_dent, h0_draft_seated, F_h0_draft_jurorName, F_h0_draft_floorName, u_257, F_h0_draft_caseName, F_h0_draft_caseFloor, F_h0_draft_tune, F_h0_draft_dull, F_h0_draft_pitch, F_h0_draft_length, F_h0_draft_hands)
     )
    ) else (
     lt10 (y_X2_readCase h0_draft_jurors h0_draft_floors h0_draft_cases h0_reader_length h0_reader_faultKind h0_reader_faultAt h0_reader_letters h0_reader_mostBytes h0_reader_behind h0_reader_at h0_reader_kind h0_reader_number F_h0_reader_bytes F_h0_draft_jurorName F_h0_draft_floorName F_h0_draft_caseName F_h0_draft_caseFloor) fun (u_265 : Int32) (u_266 : Int32) (u_267 : Int32) (u_268 : Int64) (u_269 : Int32) (u_270 : Int32) (u_271 : Int32) (u_272 : Int32) (u_273 : Nat → Int64) (u_274 : Nat → Int32) =>
     (h0_toldOne, h0_toldDent, u_266, u_267, u_268, u_269, u_270, u_271, u_272, h0_draft_jurors, h0_draft_floors, u_265, h0_draft_one, h0_draft_dent, h0_draft_seated, F_h0_draft_jurorName, F_h0_draft_floorName, F_h0_draft_tuned, u_273, u_274, F_h0_draft_tune, F_h0_draft_dull, F_h0_draft_pitch, F_h0_draft_length, F_h0_draft_hands)
    )
   ) else (
    lt11 (y_X2_readFloor h0_draft_jurors h0_draft_floors h0_draft_cases h0_reader_length h0_reader_faultKind h0_reader_faultAt h0_reader_letters h0_reader_mostBytes h0_reader_behind h0_reader_at h0_reader_kind h0_reader_number F_h0_reader_bytes F_h0_draft_jurorName F_h0_draft_floorName F_h0_draft_caseName F_h0_draft_tune F_h0_draft_dull) fun (u_286 : Int32) (u_287 : Int32) (u_288 : Int32) (u_289 : Int64) (u_290 : Int32) (u_291 : Int32) (u_292 : Int32) (u_293 : Int32) (u_294 : Nat → Int64) (u_295 : Nat → Int32) (u_296 : Nat → Int32) =>
    (h0_toldOne, h0_toldDent, u_287, u_288, u_289, u_290, u_291, u_292, u_293, h0_draft_jurors, u_286, h0_draft_cases, h0_draft_one, h0_draft_dent, h0_draft_seated, F_h0_draft_jurorName, u_294, F_h0_draft_tuned, F_h0_draft_caseName, F_h0_draft_caseFloor, u_295, u_296, F_h0_draft_pitch, F_h0_draft_length, F_h0_draft_hands)
   )
  ) else (
   lt13 (y_X2_readJuror h0_draft_jurors h0_draft_floors h0_draft_cases h0_draft_seated h0_reader_length h0_reader_faultKind h0_reader_faultAt h0_reader_letters h0_reader_mostBytes h0_reader_behind h0_reader_at h0_reader_kind h0_reader_number F_h0_reader_bytes F_h0_draft_jurorName F_h0_draft_floorName F_h0_draft_caseName F_h0_draft_pitch F_h0_draft_length F_h0_draft_hands) fun (u_311 : Int32) (u_312 : Int32) (u_313 : Int32) (u_314 : Int32) (u_315 : Int64) (u_316 : Int32) (u_317 : Int32) (u_318 : Int32) (u_319 : Int32) (u_320 : Nat → Int64) (u_321 : Nat → Int32) (u_322 : Nat → Int32) (u_323 : Nat → Int32) =>
   (h0_toldOne, h0_toldDent, u_313, u_314, u_315, u_316, u_317, u_318, u_319, u_311, h0_draft_floors, h0_draft_cases, h0_draft_one, h0_draft_dent, u_312, u_320, F_h0_draft_floorName, F_h0_draft_tuned, F_h0_draft_caseName, F_h0_draft_caseFloor, F_h0_draft_tune, F_h0_draft_dull, u_321, u_322, u_323)
  )) := rfl
def y_X2_readLines_29 (h0_reader_length : Int32) (F_h0_reader_bytes : Nat → Int32) : Nat → Int32 → Int32 → Int32 → Int32 → Int32 → Int32 → Int32 → Int32 → Int32 → (Nat → Int32) → Int32 → Int32 → Int64 → Int32 → Int32 → Int32 → Int32 → (Nat → Int64) → (Nat → Int64) → (Nat → Int64) → (Nat → Int32) → (Nat → Int32) → (Nat → Int32) → (Nat → Int32) → (Nat → Int32) → (Nat → Int32) → (Int32 × Int32 × Int32 × Int32 × Int32 × Int32 × Int32 × Int32 × Int32 × (Nat → Int32) × Int32 × Int32 × Int64 × Int32 × Int32 × Int32 × Int32 × (Nat → Int64) × (Nat → Int64) × (Nat → Int64) × (Nat → Int32) × (Nat → Int32) × (Nat → Int32) × (Nat → Int32) × (Nat → Int32) × (Nat → Int32))
 | 0, _, _, _, _, _, _, _, _, _, _, _, _, _, _, _, _, _, _, _, _, _, _, _, _, _, _ => (0, 0, 0, 0, 0, 0, 0, 0, 0, (fun _ => 0), 0, 0, 0, 0, 0, 0, 0, (fun _ => 0), (fun _ => 0), (fun _ => 0), (fun _ => 0), (fun _ => 0), (fun _ => 0), (fun _ => 0), (fun _ => 0), (fun _ => 0))
 | n29 + 1, y29_0, y29_1, y29_2, y29_3, y29_4, y29_5, y29_6, y29_7, y29_8, f29_9, y29_10, y29_11, y29_12, y29_13, y29_14, y29_15, y29_16, f29_17, f29_18, f29_19, f29_20, f29_22, f29_23, f29_24, f29_25, f29_26 =>
  if (900 : Int32) ≤ y29_0 then (
   (y29_0, y29_1, y29_2, y29_3, y29_4, y29_5, y29_6, y29_7, y29_8, f29_9, y29_10, y29_11, y29_12, y29_13, y29_14, y29_15, y29_16, f29_17, f29_18, f29_19, f29_20, f29_22, f29_23, f29_24, f29_25, f29_26)
  ) else (
   lt1 (y_X6_goesOn y29_10 y29_15) fun (r_926 : Int32) =>
   if (r_926 : Int32) = 0 then (
    (y29_0, y29_1, y29_2, y29_3, y29_4, y29_5, y29_6, y29_7, y29_8, f29_9, y29_10, y29_11, y29_12, y29_13, y29_14, y29_15, y29_16, f29_17, f29_18, f29_19, f29_20, f29_22, f29_23, f29_24, f29_25, f29_26)
   ) else (
    lt25 (y_X2_readLine y29_1 y29_2 h0_reader_length y29_10 y29_11 y29_12 900 y29_13 y29_14 y29_15 y29_16 F_h0_reader_bytes y29_3 y29_4 y29_5 y29_6 y29_7 y29_8 f29_17 f29_18 f29_9 f29_19 f29_20 f29_22 f29_23 f29_24 f29_25 f29_26) fun (u_939 : Int32) (u_940 : Int32) (u_941 : Int32) (u_942 : Int32) (u_943 : Int64) (u_944 : Int32) (u_945 : Int32) (u_946 : Int32) (u_947 : Int32) (u_948 : Int32) (u_949 : Int32) (u_950 : Int32) (u_951 : Int32) (u_952 : Int32) (u_953 : Int32) (u_954 : Nat → Int64) (u_955 : Nat → Int64) (u_956 : Nat → Int32) (u_957 : Nat → Int64) (u_958 : Nat → Int32) (u_959 : Nat → Int32) (u_960 : Nat → Int32) (u_961 : Nat → Int32) (u_962 : Nat → Int32) (u_963 : Nat → Int32) =>
    lt1 (y29_0 + 1) fun (x_983 : Int32) =>
    y_X2_readLines_29 h0_reader_length F_h0_reader_bytes n29 x_983 u_939 u_940 u_948 u_949 u_950 u_951 u_952 u_953 u_956 u_941 u_942 u_943 u_944 u_945 u_946 u_947 u_954 u_955 u_957 u_958 u_959 u_960 u_961 u_962 u_963
   )
  )
theorem y_X2_readLines_29_s (h0_reader_length : Int32) (F_h0_reader_bytes : Nat → Int32) (n29 : Nat) (y29_0 : Int32) (y29_1 : Int32) (y29_2 : Int32) (y29_3 : Int32) (y29_4 : Int32) (y29_5 : Int32) (y29_6 : Int32) (y29_7 : Int32) (y29_8 : Int32) (f29_9 : Nat → Int32) (y29_10 : Int32) (y29_11 : Int32) (y29_12 : Int64) (y29_13 : Int32) (y29_14 : Int32) (y29_15 : Int32) (y29_16 : Int32) (f29_17 : Nat → Int64) (f29_18 : Nat → Int64) (f29_19 : Nat → Int64) (f29_20 : Nat → Int32) (f29_22 : Nat → Int32) (f29_23 : Nat → Int32) (f29_24 : Nat → Int32) (f29_25 : Nat → Int32) (f29_26 : Nat → Int32) : y_X2_readLines_29 h0_reader_length F_h0_reader_bytes (n29 + 1) y29_0 y29_1 y29_2 y29_3 y29_4 y29_5 y29_6 y29_7 y29_8 f29_9 y29_10 y29_11 y29_12 y29_13 y29_14 y29_15 y29_16 f29_17 f29_18 f29_19 f29_20 f29_22 f29_23 f29_24 f29_25 f29_26 = (
  if (900 : Int32) ≤ y29_0 then (
   (y29_0, y29_1, y29_2, y29_3, y29_4, y29_5, y29_6, y29_7, y29_8, f29_9, y29_10, y29_11, y29_12, y29_13, y29_14, y29_15, y29_16, f29_17, f29_18, f29_19, f29_20, f29_22, f29_23, f29_24, f29_25, f29_26)
  ) else (
   lt1 (y_X6_goesOn y29_10 y29_15) fun (r_926 : Int32) =>
   if (r_926 : Int32) = 0 then (
    (y29_0, y29_1, y29_2, y29_3, y29_4, y29_5, y29_6, y29_7, y29_8, f29_9, y29_10, y29_11, y29_12, y29_13, y29_14, y29_15, y29_16, f29_17, f29_18, f29_19, f29_20, f29_22, f29_23, f29_24, f29_25, f29_26)
   ) else (
    lt25 (y_X2_readLine y29_1 y29_2 h0_reader_length y29_10 y29_11 y29_12 900 y29_13 y29_14 y29_15 y29_16 F_h0_reader_bytes y29_3 y29_4 y29_5 y29_6 y29_7 y29_8 f29_17 f29_18 f29_9 f29_19 f29_20 f29_22 f29_23 f29_24 f29_25 f29_26) fun (u_939 : Int32) (u_940 : Int32) (u_941 : Int32) (u_942 : Int32) (u_943 : Int64) (u_944 : Int32) (u_945 : Int32) (u_946 : Int32) (u_947 : Int32) (u_948 : Int32) (u_949 : Int32) (u_950 : Int32) (u_951 : Int32) (u_952 : Int32) (u_953 : Int32) (u_954 : Nat → Int64) (u_955 : Nat → Int64) (u_956 : Nat → Int32) (u_957 : Nat → Int64) (u_958 : Nat → Int32) (u_959 : Nat → Int32) (u_960 : Nat → Int32) (u_961 : Nat → Int32) (u_962 : Nat → Int32) (u_963 : Nat → Int32) =>
    lt1 (y29_0 + 1) fun (x_983 : Int32) =>
    y_X2_readLines_29 h0_reader_length F_h0_reader_bytes n29 x_983 u_939 u_940 u_948 u_949 u_950 u_951 u_952 u_953 u_956 u_941 u_942 u_943 u_944 u_945 u_946 u_947 u_954 u_955 u_957 u_958 u_959 u_960 u_961 u_962 u_963
   )
  )) := rfl
def y_X2_readLines (F_h0_draft_tuned : Nat → Int32) (h0_reader_length : Int32) (h0_reader_letters : Int64) (h0_reader_at : Int32) (h0_reader_kind : Int32) (h0_reader_number : Int32) (F_h0_reader_bytes : Nat → Int32) (F_h0_draft_jurorName : Nat → Int64) (F_h0_draft_floorName : Nat → Int64) (F_h0_draft_caseName : Nat → Int64) (F_h0_draft_caseFloor : Nat → Int32) (F_h0_draft_tune : Nat → Int32) (F_h0_draft_dull : Nat → Int32) (F_h0_draft_pitch : Nat → Int32) (F_h0_draft_length : Nat → Int32) (F_h0_draft_hands : Nat → Int32)  : Int32 × Int32 × Int32 × Int32 × Int32 × Int32 × Int32 × Int32 × Int32 × (Nat → Int32) × Int32 × Int32 × Int64 × Int32 × Int32 × Int32 × Int32 × (Nat → Int64) × (Nat → Int64) × (Nat → Int64) × (Nat → Int32) × (Nat → Int32) × (Nat → Int32) × (Nat → Int32) × (Nat → Int32) × (Nat → Int32) :=
  lt1 (y_X5_empty F_h0_draft_tuned) fun (u_988 : Nat → Int32) =>
  lt5 (y_X6_begin 900 h0_reader_length h0_reader_letters h0_reader_at h0_reader_kind h0_reader_number F_h0_reader_bytes) fun (u_992 : Int64) (u_993 : Int32) (u_994 : Int32) (u_995 : Int32) (u_996 : Int32) =>
  y_X2_readLines_29 h0_reader_length F_h0_reader_bytes 901 0 0 0 0 0 0 3 1 0 u_988 0 0 u_992 u_993 u_994 u_995 u_996 F_h0_draft_jurorName F_h0_draft_floorName F_h0_draft_caseName F_h0_draft_caseFloor F_h0_draft_tune F_h0_draft_dull F_h0_draft_pitch F_h0_draft_length F_h0_draft_hands
theorem y_X2_readLines_s (F_h0_draft_tuned : Nat → Int32) (h0_reader_length : Int32) (h0_reader_letters : Int64) (h0_reader_at : Int32) (h0_reader_kind : Int32) (h0_reader_number : Int32) (F_h0_reader_bytes : Nat → Int32) (F_h0_draft_jurorName : Nat → Int64) (F_h0_draft_floorName : Nat → Int64) (F_h0_draft_caseName : Nat → Int64) (F_h0_draft_caseFloor : Nat → Int32) (F_h0_draft_tune : Nat → Int32) (F_h0_draft_dull : Nat → Int32) (F_h0_draft_pitch : Nat → Int32) (F_h0_draft_length : Nat → Int32) (F_h0_draft_hands : Nat → Int32)  : y_X2_readLines F_h0_draft_tuned h0_reader_length h0_reader_letters h0_reader_at h0_reader_kind h0_reader_number F_h0_reader_bytes F_h0_draft_jurorName F_h0_draft_floorName F_h0_draft_caseName F_h0_draft_caseFloor F_h0_draft_tune F_h0_draft_dull F_h0_draft_pitch F_h0_draft_length F_h0_draft_hands = (
  lt1 (y_X5_empty F_h0_draft_tuned) fun (u_988 : Nat → Int32) =>
  lt5 (y_X6_begin 900 h0_reader_length h0_reader_letters h0_reader_at h0_reader_kind h0_reader_number F_h0_reader_bytes) fun (u_992 : Int64) (u_993 : Int32) (u_994 : Int32) (u_995 : Int32) (u_996 : Int32) =>
  y_X2_readLines_29 h0_reader_length F_h0_reader_bytes 901 0 0 0 0 0 0 3 1 0 u_988 0 0 u_992 u_993 u_994 u_995 u_996 F_h0_draft_jurorName F_h0_draft_floorName F_h0_draft_caseName F_h0_draft_caseFloor F_h0_draft_tune F_h0_draft_dull F_h0_draft_pitch F_h0_draft_length F_h0_draft_hands) := rfl
def y_X5_copyFrom (F_r1_jurorName : Nat → Int64) (F_h0_jurorName : Nat → Int64) (F_r1_floorName : Nat → Int64) (F_h0_floorName : Nat → Int64) (F_r1_caseName : Nat → Int64) (F_h0_caseName : Nat → Int64) (F_r1_pitch : Nat → Int32) (F_h0_pitch : Nat → Int32) (F_r1_length : Nat → Int32) (F_h0_length : Nat → Int32) (F_r1_hands : Nat → Int32) (F_h0_hands : Nat → Int32) (F_r1_tune : Nat → Int32) (F_h0_tune : Nat → Int32) (F_r1_dull : Nat → Int32) (F_h0_dull : Nat → Int32) (F_r1_caseFloor : Nat → Int32) (F_h0_caseFloor : Nat → Int32) (F_r1_tuned : Nat → Int32) (F_h0_tuned : Nat → Int32)  : (Nat → Int64) × (Nat → Int64) × (Nat → Int64) × (Nat → Int32) × (Nat → Int32) × (Nat → Int32) × (Nat → Int32) × (Nat → Int32) × (Nat → Int32) × (Nat → Int32) :=
  lt1 (va_cpy F_r1_jurorName F_h0_jurorName (0 : Int32).toNatClampNeg (0 : Int32).toNatClampNeg (10 : Int32).toNatClampNeg) fun (g_12 : Nat → Int64) =>
  lt1 (va_cpy F_r1_floorName F_h0_floorName (0 : Int32).toNatClampNeg (0 : Int32).toNatClampNeg (4 : Int32).toNatClampNeg) fun (g_13 : Nat → Int64) =>
  lt1 (va_cpy F_r1_caseName F_h0_caseName (0 : Int32).toNatClampNeg (0 : Int32).toNatClampNeg (5 : Int32).toNatClampNeg) fun (g_14 : Nat → Int64) =>
  lt1 (va_cpy F_r1_pitch F_h0_pitch (0 : Int32).toNatClampNeg (0 : Int32).toNatClampNeg (10 : Int32).toNatClampNeg) fun (g_15 : Nat → Int32) =>
  lt1 (va_cpy F_r1_length F_h0_length (0 : Int32).toNatClampNeg (0 : Int32).toNatClampNeg (10 : Int32).toNatClampNeg) fun (g_16 : Nat → Int32) =>
  lt1 (va_cpy F_r1_hands F_h0_hands (0 : Int32).toNatClampNeg (0 : Int32).toNatClampNeg (10 : Int32).toNatClampNeg) fun (g_17 : Nat → Int32) =>
  lt1 (va_cpy F_r1_tune F_h0_tune (0 : Int32).toNatClampNeg (0 : Int32).toNatClampNeg (4 : Int32).toNatClampNeg) fun (g_18 : Nat → Int32) =>
  lt1 (va_cpy F_r1_dull F_h0_dull (0 : Int32).toNatClampNeg (0 : Int32).toNatClampNeg (4 : Int32).toNatClampNeg) fun (g_19 : Nat → Int32) =>
  lt1 (va_cpy F_r1_caseFloor F_h0_caseFloor (0 : Int32).toNatClampNeg (0 : Int32).toNatClampNeg (5 : Int32).toNatClampNeg) fun (g_20 : Nat → Int32) =>
  lt1 (va_cpy F_r1_tuned F_h0_tuned (0 : Int32).toNatClampNeg (0 : Int32).toNatClampNeg (40 : Int32).toNatClampNeg) fun (g_22 : Nat → Int32) =>
  (g_12, g_13, g_14, g_15, g_16, g_17, g_18, g_19, g_20, g_22)
theorem y_X5_copyFrom_s (F_r1_jurorName : Nat → Int64) (F_h0_jurorName : Nat → Int64) (F_r1_floorName : Nat → Int64) (F_h0_floorName : Nat → Int64) (F_r1_caseName : Nat → Int64) (F_h0_caseName : Nat → Int64) (F_r1_pitch : Nat → Int32) (F_h0_pitch : Nat → Int32) (F_r1_length : Nat → Int32) (F_h0_length : Nat → Int32) (F_r1_hands : Nat → Int32) (F_h0_hands : Nat → Int32) (F_r1_tune : Nat → Int32) (F_h0_tune : Nat → Int32) (F_r1_dull : Nat → Int32) (F_h0_dull : Nat → Int32) (F_r1_caseFloor : Nat → Int32) (F_h0_caseFloor : Nat → Int32) (F_r1_tuned : Nat → Int32) (F_h0_tuned : Nat → Int32)  : y_X5_copyFrom F_r1_jurorName F_h0_jurorName F_r1_floorName F_h0_floorName F_r1_caseName F_h0_caseName F_r1_pitch F_h0_pitch F_r1_length F_h0_length F_r1_hands F_h0_hands F_r1_tune F_h0_tune F_r1_dull F_h0_dull F_r1_caseFloor F_h0_caseFloor F_r1_tuned F_h0_tuned = (
  lt1 (va_cpy F_r1_jurorName F_h0_jurorName (0 : Int32).toNatClampNeg (0 : Int32).toNatClampNeg (10 : Int32).toNatClampNeg) fun (g_12 : Nat → Int64) =>
  lt1 (va_cpy F_r1_floorName F_h0_floorName (0 : Int32).toNatClampNeg (0 : Int32).toNatClampNeg (4 : Int32).toNatClampNeg) fun (g_13 : Nat → Int64) =>
  lt1 (va_cpy F_r1_caseName F_h0_caseName (0 : Int32).toNatClampNeg (0 : Int32).toNatClampNeg (5 : Int32).toNatClampNeg) fun (g_14 : Nat → Int64) =>
  lt1 (va_cpy F_r1_pitch F_h0_pitch (0 : Int32).toNatClampNeg (0 : Int32).toNatClampNeg (10 : Int32).toNatClampNeg) fun (g_15 : Nat → Int32) =>
  lt1 (va_cpy F_r1_length F_h0_length (0 : Int32).toNatClampNeg (0 : Int32).toNatClampNeg (10 : Int32).toNatClampNeg) fun (g_16 : Nat → Int32) =>
  lt1 (va_cpy F_r1_hands F_h0_hands (0 : Int32).toNatClampNeg (0 : Int32).toNatClampNeg (10 : Int32).toNatClampNeg) fun (g_17 : Nat → Int32) =>
  lt1 (va_cpy F_r1_tune F_h0_tune (0 : Int32).toNatClampNeg (0 : Int32).toNatClampNeg (4 : Int32).toNatClampNeg) fun (g_18 : Nat → Int32) =>
  lt1 (va_cpy F_r1_dull F_h0_dull (0 : Int32).toNatClampNeg (0 : Int32).toNatClampNeg (4 : Int32).toNatClampNeg) fun (g_19 : Nat → Int32) =>
  lt1 (va_cpy F_r1_caseFloor F_h0_caseFloor (0 : Int32).toNatClampNeg (0 : Int32).toNatClampNeg (5 : Int32).toNatClampNeg) fun (g_20 : Nat → Int32) =>
  lt1 (va_cpy F_r1_tuned F_h0_tuned (0 : Int32).toNatClampNeg (0 : Int32).toNatClampNeg (40 : Int32).toNatClampNeg) fun (g_22 : Nat → Int32) =>
  (g_12, g_13, g_14, g_15, g_16, g_17, g_18, g_19, g_20, g_22)) := rfl
def y_X11_court (F_h0_courtReader_draft_tuned : Nat → Int32) (h0_tape_length : Int32) (h0_tape_letters : Int64) (h0_tape_at : Int32) (h0_tape_kind : Int32) (h0_tape_number : Int32) (F_h0_tape_bytes : Nat → Int32) (F_h0_courtReader_draft_jurorName : Nat → Int64) (F_h0_courtReader_draft_floorName : Nat → Int64) (F_h0_courtReader_draft_caseName : Nat → Int64) (F_h0_courtReader_draft_caseFloor : Nat → Int32) (F_h0_courtReader_draft_tune : Nat → Int32) (F_h0_courtReader_draft_dull : Nat → Int32) (F_h0_courtReader_draft_pitch : Nat → Int32) (F_h0_courtReader_draft_length : Nat → Int32) (F_h0_courtReader_draft_hands : Nat → Int32) (h0_law_jurors : Int32) (h0_law_floors : Int32) (h0_law_cases : Int32) (h0_law_one : Int32) (h0_law_dent : Int32) (F_h0_law_jurorName : Nat → Int64) (F_h0_law_floorName : Nat → Int64) (F_h0_law_caseName : Nat → Int64) (F_h0_law_pitch : Nat → Int32) (F_h0_law_length : Nat → Int32) (F_h0_law_hands : Nat → Int32) (F_h0_law_tune : Nat → Int32) (F_h0_law_dull : Nat → Int32) (F_h0_law_caseFloor : Nat → Int32) (F_h0_law_tuned : Nat → Int32)  : Int32 × Int32 × Int32 × Int32 × Int32 × Int32 × Int32 × (Nat → Int64) × (Nat → Int64) × (Nat → Int64) × (Nat → Int32) × (Nat → Int32) :=
  lt26 (y_X2_readLines F_h0_courtReader_draft_tuned h0_tape_length h0_tape_letters h0_tape_at h0_tape_kind h0_tape_number F_h0_tape_bytes F_h0_courtReader_draft_jurorName F_h0_courtReader_draft_floorName F_h0_courtReader_draft_caseName F_h0_courtReader_draft_caseFloor F_h0_courtReader_draft_tune F_h0_courtReader_draft_dull F_h0_courtReader_draft_pitch F_h0_courtReader_draft_length F_h0_courtReader_draft_hands) fun (r_78 : Int32) (u_84 : Int32) (u_85 : Int32) (u_86 : Int32) (u_87 : Int32) (u_88 : Int32) (u_89 : Int32) (u_90 : Int32) (u_91 : Int32) (u_92 : Nat → Int32) (u_93 : Int32) (u_94 : Int32) (u_95 : Int64) (u_96 : Int32) (u_97 : Int32) (u_98 : Int32) (u_99 : Int32) (u_100 : Nat → Int64) (u_101 : Nat → Int64) (u_102 : Nat → Int64) (u_103 : Nat → Int32) (u_104 : Nat → Int32) (u_105 : Nat → Int32) (u_106 : Nat → Int32) (u_107 : Nat → Int32) (u_108 : Nat → Int32) =>
  lt1 (y_X6_isBroken u_93) fun (r_121 : Int32) =>
  if (r_121 : Int32) = 0 then (
   lt10 (y_X5_copyFrom u_100 F_h0_law_jurorName u_101 F_h0_law_floorName u_102 F_h0_law_caseName u_106 F_h0_law_pitch u_107 F_h0_law_length u_108 F_h0_law_hands u_104 F_h0_law_tune u_105 F_h0_law_dull u_103 F_h0_law_caseFloor u_92 F_h0_law_tuned) fun (u_131 : Nat → Int64) (u_132 : Nat → Int64) (u_133 : Nat → Int64) (u_134 : Nat → Int32) (u_135 : Nat → Int32) (u_136 : Nat → Int32) (u_137 : Nat → Int32) (u_138 : Nat → Int32) (u_139 : Nat → Int32) (u_140 : Nat → Int32) =>
   (r_78, u_93, u_86, u_87, u_88, u_89, u_90, u_131, u_132, u_133, u_135, u_138)
  ) else (
   lt1 (((-1) : Int32) - u_94) fun (x_153 : Int32) =>
   (x_153, u_93, h0_law_jurors, h0_law_floors, h0_law_cases, h0_law_one, h0_law_dent, F_h0_law_jurorName, F_h0_law_floorName, F_h0_law_caseName, F_h0_law_length, F_h0_law_dull)
  )
theorem y_X11_court_s (F_h0_courtReader_draft_tuned : Nat → Int32) (h0_tape_length : Int32) (h0_tape_letters : Int64) (h0_tape_at : Int32) (h0_tape_kind : Int32) (h0_tape_number : Int32) (F_h0_tape_bytes : Nat → Int32) (F_h0_courtReader_draft_jurorName : Nat → Int64) (F_h0_courtReader_draft_floorName : Nat → Int64) (F_h0_courtReader_draft_caseName : Nat → Int64) (F_h0_courtReader_draft_caseFloor : Nat → Int32) (F_h0_courtReader_draft_tune : Nat → Int32) (F_h0_courtReader_draft_dull : Nat → Int32) (F_h0_courtReader_draft_pitch : Nat → Int32) (F_h0_courtReader_draft_length : Nat → Int32) (F_h0_courtReader_draft_hands : Nat → Int32) (h0_law_jurors : Int32) (h0_law_floors : Int32) (h0_law_cases : Int32) (h0_law_one : Int32) (h0_law_dent : Int32) (F_h0_law_jurorName : Nat → Int64) (F_h0_law_floorName : Nat → Int64) (F_h0_law_caseName : Nat → Int64) (F_h0_law_pitch : Nat → Int32) (F_h0_law_length : Nat → Int32) (F_h0_law_hands : Nat → Int32) (F_h0_law_tune : Nat → Int32) (F_h0_law_dull : Nat → Int32) (F_h0_law_caseFloor : Nat → Int32) (F_h0_law_tuned : Nat → Int32)  : y_X11_court F_h0_courtReader_draft_tuned h0_tape_length h0_tape_letters h0_tape_at h0_tape_kind h0_tape_number F_h0_tape_bytes F_h0_courtReader_draft_jurorName F_h0_courtReader_draft_floorName F_h0_courtReader_draft_caseName F_h0_courtReader_draft_caseFloor F_h0_courtReader_draft_tune F_h0_courtReader_draft_dull F_h0_courtReader_draft_pitch F_h0_courtReader_draft_length F_h0_courtReader_draft_hands h0_law_jurors h0_law_floors h0_law_cases h0_law_one h0_law_dent F_h0_law_jurorName F_h0_law_floorName F_h0_law_caseName F_h0_law_pitch F_h0_law_length F_h0_law_hands F_h0_law_tune F_h0_law_dull F_h0_law_caseFloor F_h0_law_tuned = (
  lt26 (y_X2_readLines F_h0_courtReader_draft_tuned h0_tape_length h0_tape_letters h0_tape_at h0_tape_kind h0_tape_number F_h0_tape_bytes F_h0_courtReader_draft_jurorName F_h0_courtReader_draft_floorName F_h0_courtReader_draft_caseName F_h0_courtReader_draft_caseFloor F_h0_courtReader_draft_tune F_h0_courtReader_draft_dull F_h0_courtReader_draft_pitch F_h0_courtReader_draft_length F_h0_courtReader_draft_hands) fun (r_78 : Int32) (u_84 : Int32) (u_85 : Int32) (u_86 : Int32) (u_87 : Int32) (u_88 : Int32) (u_89 : Int32) (u_90 : Int32) (u_91 : Int32) (u_92 : Nat → Int32) (u_93 : Int32) (u_94 : Int32) (u_95 : Int64) (u_96 : Int32) (u_97 : Int32) (u_98 : Int32) (u_99 : Int32) (u_100 : Nat → Int64) (u_101 : Nat → Int64) (u_102 : Nat → Int64) (u_103 : Nat → Int32) (u_104 : Nat → Int32) (u_105 : Nat → Int32) (u_106 : Nat → Int32) (u_107 : Nat → Int32) (u_108 : Nat → Int32) =>
  lt1 (y_X6_isBroken u_93) fun (r_121 : Int32) =>
  if (r_121 : Int32) = 0 then (
   lt10 (y_X5_copyFrom u_100 F_h0_law_jurorName u_101 F_h0_law_floorName u_102 F_h0_law_caseName u_106 F_h0_law_pitch u_107 F_h0_law_length u_108 F_h0_law_hands u_104 F_h0_law_tune u_105 F_h0_law_dull u_103 F_h0_law_caseFloor u_92 F_h0_law_tuned) fun (u_131 : Nat → Int64) (u_132 : Nat → Int64) (u_133 : Nat → Int64) (u_134 : Nat → Int32) (u_135 : Nat → Int32) (u_136 : Nat → Int32) (u_137 : Nat → Int32) (u_138 : Nat → Int32) (u_139 : Nat → Int32) (u_140 : Nat → Int32) =>
   (r_78, u_93, u_86, u_87, u_88, u_89, u_90, u_131, u_132, u_133, u_135, u_138)
  ) else (
   lt1 (((-1) : Int32) - u_94) fun (x_153 : Int32) =>
   (x_153, u_93, h0_law_jurors, h0_law_floors, h0_law_cases, h0_law_one, h0_law_dent, F_h0_law_jurorName, F_h0_law_floorName, F_h0_law_caseName, F_h0_law_length, F_h0_law_dull)
  )) := rfl
def y_X12_come (a1 : Int32) (h0_taped : Int32) (F_h0_tape : Nat → Int32)  : Int32 × (Nat → Int32) :=
  lt1 (((a1 : Int32).toUInt32 >>> ((24 : Int32).toUInt32 &&& Int32.toUInt32 31)).toInt32) fun (x_42 : Int32) =>
  lt1 ((x_42 : Int32) &&& 255) fun (x_44 : Int32) =>
  lt1 (upd F_h0_tape (h0_taped : Int32).toNatClampNeg (x_44 : Int32)) fun (g_47 : Nat → Int32) =>
  lt1 ((h0_taped : Int32) + 1) fun (x_50 : Int32) =>
  lt1 (((a1 : Int32).toUInt32 >>> ((16 : Int32).toUInt32 &&& Int32.toUInt32 31)).toInt32) fun (x_53 : Int32) =>
  lt1 ((x_53 : Int32) &&& 255) fun (x_55 : Int32) =>
  lt1 (upd g_47 (x_50 : Int32).toNatClampNeg (x_55 : Int32)) fun (g_58 : Nat → Int32) =>
  lt1 ((x_50 : Int32) + 1) fun (x_61 : Int32) =>
  lt1 (((a1 : Int32).toUInt32 >>> ((8 : Int32).toUInt32 &&& Int32.toUInt32 31)).toInt32) fun (x_64 : Int32) =>
  lt1 ((x_64 : Int32) &&& 255) fun (x_66 : Int32) =>
  lt1 (upd g_58 (x_61 : Int32).toNatClampNeg (x_66 : Int32)) fun (g_69 : Nat → Int32) =>
  lt1 ((x_61 : Int32) + 1) fun (x_72 : Int32) =>
  lt1 (((a1 : Int32).toUInt32 >>> ((0 : Int32).toUInt32 &&& Int32.toUInt32 31)).toInt32) fun (x_75 : Int32) =>
  lt1 ((x_75 : Int32) &&& 255) fun (x_76 : Int32) =>
  lt1 (upd g_69 (x_72 : Int32).toNatClampNeg (x_76 : Int32)) fun (g_78 : Nat → Int32) =>
  lt1 ((x_72 : Int32) + 1) fun (x_80 : Int32) =>
  (x_80, g_78)
theorem y_X12_come_s (a1 : Int32) (h0_taped : Int32) (F_h0_tape : Nat → Int32)  : y_X12_come a1 h0_taped F_h0_tape = (
  lt1 (((a1 : Int32).toUInt32 >>> ((24 : Int32).toUInt32 &&& Int32.toUInt32 31)).toInt32) fun (x_42 : Int32) =>
  lt1 ((x_42 : Int32) &&& 255) fun (x_44 : Int32) =>
  lt1 (upd F_h0_tape (h0_taped : Int32).toNatClampNeg (x_44 : Int32)) fun (g_47 : Nat → Int32) =>
  lt1 ((h0_taped : Int32) + 1) fun (x_50 : Int32) =>
  lt1 (((a1 : Int32).toUInt32 >>> ((16 : Int32).toUInt32 &&& Int32.toUInt32 31)).toInt32) fun (x_53 : Int32) =>
  lt1 ((x_53 : Int32) &&& 255) fun (x_55 : Int32) =>
  lt1 (upd g_47 (x_50 : Int32).toNatClampNeg (x_55 : Int32)) fun (g_58 : Nat → Int32) =>
  lt1 ((x_50 : Int32) + 1) fun (x_61 : Int32) =>
  lt1 (((a1 : Int32).toUInt32 >>> ((8 : Int32).toUInt32 &&& Int32.toUInt32 31)).toInt32) fun (x_64 : Int32) =>
  lt1 ((x_64 : Int32) &&& 255) fun (x_66 : Int32) =>
  lt1 (upd g_58 (x_61 : Int32).toNatClampNeg (x_66 : Int32)) fun (g_69 : Nat → Int32) =>
  lt1 ((x_61 : Int32) + 1) fun (x_72 : Int32) =>
  lt1 (((a1 : Int32).toUInt32 >>> ((0 : Int32).toUInt32 &&& Int32.toUInt32 31)).toInt32) fun (x_75 : Int32) =>
  lt1 ((x_75 : Int32) &&& 255) fun (x_76 : Int32) =>
  lt1 (upd g_69 (x_72 : Int32).toNatClampNeg (x_76 : Int32)) fun (g_78 : Nat → Int32) =>
  lt1 ((x_72 : Int32) + 1) fun (x_80 : Int32) =>
  (x_80, g_78)) := rfl
def y_X12_feed (a1 : Int32) (a2 : Int32) (a3 : Int32) (a4 : Int32) (a5 : Int32) (h0_taped : Int32) (F_h0_tape : Nat → Int32)  : Int32 × Int32 × (Nat → Int32) :=
  lt1 ((h0_taped : Int32) + 20) fun (x_64 : Int32) =>
  if (x_64 : Int32) ≤ 940 then (
   lt2 (y_X12_come a1 h0_taped F_h0_tape) fun (u_73 : Int32) (u_74 : Nat → Int32) =>
   lt2 (y_X12_come a2 u_73 u_74) fun (u_83 : Int32) (u_84 : Nat → Int32) =>
   lt2 (y_X12_come a3 u_83 u_84) fun (u_94 : Int32) (u_95 : Nat → Int32) =>
   lt2 (y_X12_come a4 u_94 u_95) fun (u_105 : Int32) (u_106 : Nat → Int32) =>
   lt2 (y_X12_come a5 u_105 u_106) fun (u_116 : Int32) (u_117 : Nat → Int32) =>
   (u_116, u_116, u_117)
  ) else (
   ((-1), h0_taped, F_h0_tape)
  )
theorem y_X12_feed_s (a1 : Int32) (a2 : Int32) (a3 : Int32) (a4 : Int32) (a5 : Int32) (h0_taped : Int32) (F_h0_tape : Nat → Int32)  : y_X12_feed a1 a2 a3 a4 a5 h0_taped F_h0_tape = (
  lt1 ((h0_taped : Int32) + 20) fun (x_64 : Int32) =>
  if (x_64 : Int32) ≤ 940 then (
   lt2 (y_X12_come a1 h0_taped F_h0_tape) fun (u_73 : Int32) (u_74 : Nat → Int32) =>
   lt2 (y_X12_come a2 u_73 u_74) fun (u_83 : Int32) (u_84 : Nat → Int32) =>
   lt2 (y_X12_come a3 u_83 u_84) fun (u_94 : Int32) (u_95 : Nat → Int32) =>
   lt2 (y_X12_come a4 u_94 u_95) fun (u_105 : Int32) (u_106 : Nat → Int32) =>
   lt2 (y_X12_come a5 u_105 u_106) fun (u_116 : Int32) (u_117 : Nat → Int32) =>
   (u_116, u_116, u_117)
  ) else (
   ((-1), h0_taped, F_h0_tape)
  )) := rfl
def y_X12_take (h0_taped : Int32)  : Int32 :=
  h0_taped
theorem y_X12_take_s (h0_taped : Int32)  : y_X12_take h0_taped = (
  h0_taped) := rfl
def y_X12_isLetter (a1 : Int32)  : Int32 :=
  if (a1 : Int32) < 97 then (
   0
  ) else (
   if (122 : Int32) < a1 then (
    0
   ) else (
    1
   )
  )
theorem y_X12_isLetter_s (a1 : Int32)  : y_X12_isLetter a1 = (
  if (a1 : Int32) < 97 then (
   0
  ) else (
   if (122 : Int32) < a1 then (
    0
   ) else (
    1
   )
  )) := rfl
def y_X12_isDigit (a1 : Int32)  : Int32 :=
  if (a1 : Int32) < 48 then (
   0
  ) else (
   if (57 : Int32) < a1 then (
    0
   ) else (
    1
   )
  )
theorem y_X12_isDigit_s (a1 : Int32)  : y_X12_isDigit a1 = (
  if (a1 : Int32) < 48 then (
   0
  ) else (
   if (57 : Int32) < a1 then (
    0
   ) else (
    1
   )
  )) := rfl
def y_X12_tapeAt (a1 : Int32) (h0_size : Int32) (F_h0_tape : Nat → Int32)  : Int32 :=
  if (h0_size : Int32) ≤ a1 then (
   0
  ) else (
   lt1 (F_h0_tape (a1 : Int32).toNatClampNeg) fun (x_13 : Int32) =>
   x_13
  )
theorem y_X12_tapeAt_s (a1 : Int32) (h0_size : Int32) (F_h0_tape : Nat → Int32)  : y_X12_tapeAt a1 h0_size F_h0_tape = (
  if (h0_size : Int32) ≤ a1 then (
   0
  ) else (
   lt1 (F_h0_tape (a1 : Int32).toNatClampNeg) fun (x_13 : Int32) =>
   x_13
  )) := rfl
def y_X12_go_179 (h0_number : Int32) (h0_word : Int64) (y179_0 : Int32) (y179_1 : Int32) (y179_2 : Int32) (y179_3 : Int32) : Int32 × Int32 × Int32 × Int32 × Int32 × Int64 :=
  lt1 ((y179_2 : Int32) + 1) fun (x_3600 : Int32) =>
  (x_3600, y179_3, y179_1, h0_number, y179_0, h0_word)
theorem y_X12_go_179_s (h0_number : Int32) (h0_word : Int64) (y179_0 : Int32) (y179_1 : Int32) (y179_2 : Int32) (y179_3 : Int32) : y_X12_go_179 h0_number h0_word y179_0 y179_1 y179_2 y179_3 = (
  lt1 ((y179_2 : Int32) + 1) fun (x_3600 : Int32) =>
  (x_3600, y179_3, y179_1, h0_number, y179_0, h0_word)) := rfl
def y_X12_go_174 (h0_number : Int32) (h0_word : Int64) (y174_0 : Int32) (y174_1 : Int32) (y174_2 : Int32) : Int32 × Int32 × Int32 × Int32 × Int32 × Int64 :=
  y_X12_go_179 h0_number h0_word y174_0 4 y174_1 y174_2
theorem y_X12_go_174_s (h0_number : Int32) (h0_word : Int64) (y174_0 : Int32) (y174_1 : Int32) (y174_2 : Int32) : y_X12_go_174 h0_number h0_word y174_0 y174_1 y174_2 = (
  y_X12_go_179 h0_number h0_word y174_0 4 y174_1 y174_2) := rfl
def y_X12_go_390 (h0_sign : Int32) (y390_0 : Int32) (y390_1 : Int32) (y390_2 : Int32) (y390_3 : Int32) (y390_4 : Int64) : Int32 × Int32 × Int32 × Int32 × Int32 × Int64 :=
  (y390_1, y390_2, y390_0, y390_3, h0_sign, y390_4)
theorem y_X12_go_390_s (h0_sign : Int32) (y390_0 : Int32) (y390_1 : Int32) (y390_2 : Int32) (y390_3 : Int32) (y390_4 : Int64) : y_X12_go_390 h0_sign y390_0 y390_1 y390_2 y390_3 y390_4 = (
  (y390_1, y390_2, y390_0, y390_3, h0_sign, y390_4)) := rfl
def y_X12_go_377 (h0_sign : Int32) (y377_0 : Int32) (y377_1 : Int32) (y377_2 : Int32) (y377_3 : Int64) : Int32 × Int32 × Int32 × Int32 × Int32 × Int64 :=
  y_X12_go_390 h0_sign 1 y377_0 y377_1 y377_2 y377_3
theorem y_X12_go_377_s (h0_sign : Int32) (y377_0 : Int32) (y377_1 : Int32) (y377_2 : Int32) (y377_3 : Int64) : y_X12_go_377 h0_sign y377_0 y377_1 y377_2 y377_3 = (
  y_X12_go_390 h0_sign 1 y377_0 y377_1 y377_2 y377_3) := rfl
def y_X12_go_374 (h0_sign : Int32) (y374_0 : Int32) (y374_1 : Int32) (y374_2 : Int32) (y374_3 : Int32) (y374_4 : Int32) (y374_5 : Int32) (y374_6 : Int64) : Int32 × Int32 × Int32 × Int32 × Int32 × Int64 :=
  if (y374_2 : Int32) ≤ y374_1 then (
   if (y374_0 : Int32) = 0 then (
    y_X12_go_390 h0_sign 3 y374_3 y374_4 y374_5 y374_6
   ) else (
    y_X12_go_390 h0_sign 2 y374_3 y374_4 y374_5 y374_6
   )
  ) else (
   y_X12_go_377 h0_sign y374_3 y374_4 y374_5 y374_6
  )
theorem y_X12_go_374_s (h0_sign : Int32) (y374_0 : Int32) (y374_1 : Int32) (y374_2 : Int32) (y374_3 : Int32) (y374_4 : Int32) (y374_5 : Int32) (y374_6 : Int64) : y_X12_go_374 h0_sign y374_0 y374_1 y374_2 y374_3 y374_4 y374_5 y374_6 = (
  if (y374_2 : Int32) ≤ y374_1 then (
   if (y374_0 : Int32) = 0 then (
    y_X12_go_390 h0_sign 3 y374_3 y374_4 y374_5 y374_6
   ) else (
    y_X12_go_390 h0_sign 2 y374_3 y374_4 y374_5 y374_6
   )
  ) else (
   y_X12_go_377 h0_sign y374_3 y374_4 y374_5 y374_6
  )) := rfl
def y_X12_go_215 (h0_size : Int32) (h0_sign : Int32) (F_h0_tape : Nat → Int32) : Nat → Int32 → Int32 → Int32 → Int32 → Int32 → Int64 → (Int32 × Int32 × Int32 × Int32 × Int32 × Int64)
 | 0, _, _, _, _, _, _ => (0, 0, 0, 0, 0, 0)
 | n215 + 1, y215_0, y215_1, y215_2, y215_3, y215_4, y215_5 =>
  lt1 (y_X12_tapeAt y215_2 h0_size F_h0_tape) fun (r_3078 : Int32) =>
  if h0_size ≤ y215_2 then (
   lt1 (y_X12_isLetter 0) fun (r_3091 : Int32) =>
   if (0 : Int32) < 97 then (
    lt1 (y_X12_tapeAt y215_2 h0_size F_h0_tape) fun (r_3107 : Int32) =>
    if h0_size ≤ y215_2 then (
     lt1 (y_X12_isDigit 0) fun (r_3120 : Int32) =>
     if (0 : Int32) < 48 then (
      if (y215_1 : Int32) = 0 then (
       y_X12_go_377 h0_sign y215_2 y215_3 y215_4 y215_5
      ) else (
       lt1 ((y215_2 : Int32) - y215_3) fun (x_3141 : Int32) =>
       if (y215_0 : Int32) = 0 then (
        y_X12_go_374 h0_sign y215_0 3 x_3141 y215_2 y215_3 y215_4 y215_5
       ) else (
        y_X12_go_374 h0_sign y215_0 7 x_3141 y215_2 y215_3 y215_4 y215_5
       )
      )
     ) else (
      if (57 : Int32) < 0 then (
       (0, 0, 0, 0, 0, 0)
      ) else (
       (0, 0, 0, 0, 0, 0)
      )
     )
    ) else (
     (0, 0, 0, 0, 0, 0)
    )
   ) else (
    if (122 : Int32) < 0 then (
     (0, 0, 0, 0, 0, 0)
    ) else (
     (0, 0, 0, 0, 0, 0)
    )
   )
  ) else (
   lt1 (y_X12_isLetter r_3078) fun (r_3152 : Int32) =>
   if (r_3078 : Int32) < 97 then (
    lt1 (y_X12_tapeAt y215_2 h0_size F_h0_tape) fun (r_3169 : Int32) =>
    if h0_size ≤ y215_2 then (
     (0, 0, 0, 0, 0, 0)
    ) else (
     lt1 (y_X12_isDigit r_3078) fun (r_3183 : Int32) =>
     if (r_3078 : Int32) < 48 then (
      if (y215_1 : Int32) = 0 then (
       y_X12_go_377 h0_sign y215_2 y215_3 y215_4 y215_5
      ) else (
       lt1 ((y215_2 : Int32) - y215_3) fun (x_3205 : Int32) =>
       if (y215_0 : Int32) = 0 then (
        y_X12_go_374 h0_sign y215_0 3 x_3205 y215_2 y215_3 y215_4 y215_5
       ) else (
        y_X12_go_374 h0_sign y215_0 7 x_3205 y215_2 y215_3 y215_4 y215_5
       )
      )
     ) else (
      if (57 : Int32) < r_3078 then (
       if (y215_1 : Int32) = 0 then (
        y_X12_go_377 h0_sign y215_2 y215_3 y215_4 y215_5
       ) else (
        lt1 ((y215_2 : Int32) - y215_3) fun (x_3219 : Int32) =>
        if (y215_0 : Int32) = 0 then (
         y_X12_go_374 h0_sign y215_0 3 x_3219 y215_2 y215_3 y215_4 y215_5
        ) else (
         y_X12_go_374 h0_sign y215_0 7 x_3219 y215_2 y215_3 y215_4 y215_5
        )
       )
      ) else (
       if (y215_1 : Int32) = 0 then (
        lt1 ((y215_2 : Int32) - y215_3) fun (x_3231 : Int32) =>
        if (7 : Int32) ≤ x_3231 then (
         lt1 ((y215_2 : Int32) - y215_3) fun (x_3237 : Int32) =>
         if (3 : Int32) ≤ x_3237 then (
          lt1 ((y215_2 : Int32) + 1) fun (x_3243 : Int32) =>
          y_X12_go_215 h0_size h0_sign F_h0_tape n215 y215_0 0 x_3243 y215_3 y215_4 y215_5
         ) else (
          lt1 ((10 : Int32) * y215_4) fun (x_3248 : Int32) =>
          lt1 ((x_3248 : Int32) + r_3078) fun (x_3249 : Int32) =>
          lt1 ((x_3249 : Int32) - 48) fun (x_3250 : Int32) =>
          lt1 ((y215_2 : Int32) + 1) fun (x_3251 : Int32) =>
          y_X12_go_215 h0_size h0_sign F_h0_tape n215 y215_0 0 x_3251 y215_3 x_3250 y215_5
         )
        ) else (
         lt1 ((27 : Int64) * y215_5) fun (x_3256 : Int64) =>
         lt1 (r_3078.toInt64) fun (x_3257 : Int64) =>
         lt1 ((x_3256 : Int64) + x_3257) fun (x_3258 : Int64) =>
         lt1 ((x_3258 : Int64) - 96) fun (x_3259 : Int64) =>
         lt1 ((y215_2 : Int32) - y215_3) fun (x_3260 : Int32) =>
         if (3 : Int32) ≤ x_3260 then (
          lt1 ((y215_2 : Int32) + 1) fun (x_3266 : Int32) =>
          y_X12_go_215 h0_size h0_sign F_h0_tape n215 y215_0 0 x_3266 y215_3 y215_4 x_3259
         ) else (
          lt1 ((10 : Int32) * y215_4) fun (x_3271 : Int32) =>
          lt1 ((x_3271 : Int32) + r_3078) fun (x_3272 : Int32) =>
          lt1 ((x_3272 : Int32) - 48) fun (x_3273 : Int32) =>
          lt1 ((y215_2 : Int32) + 1) fun (x_3274 : Int32) =>
          y_X12_go_215 h0_size h0_sign F_h0_tape n215 y215_0 0 x_3274 y215_3 x_3273 x_3259
         )
        )
       ) else (
        lt1 (y_X12_isLetter r_3078) fun (r_3278 : Int32) =>
        if (r_3078 : Int32) < 97 then (
         if (0 : Int32) = y215_0 then (
          lt1 ((y215_2 : Int32) - y215_3) fun (x_3345 : Int32) =>
          if (7 : Int32) ≤ x_3345 then (
           lt1 ((y215_2 : Int32) - y215_3) fun (x_3351 : Int32) =>
           if (3 : Int32) ≤ x_3351 then (
            lt1 ((y215_2 : Int32) + 1) fun (x_3357 : Int32) =>
            y_X12_go_215 h0_size h0_sign F_h0_tape n215 y215_0 1 x_3357 y215_3 y215_4 y215_5
           ) else (
            lt1 ((10 : Int32) * y215_4) fun (x_3362 : Int32) =>
            lt1 ((x_3362 : Int32) + r_3078) fun (x_3363 : Int32) =>
            lt1 ((x_3363 : Int32) - 48) fun (x_3364 : Int32) =>
            lt1 ((y215_2 : Int32) + 1) fun (x_3365 : Int32) =>
            y_X12_go_215 h0_size h0_sign F_h0_tape n215 y215_0 1 x_3365 y215_3 x_3364 y215_5
           )
          ) else (
           lt1 ((27 : Int64) * y215_5) fun (x_3370 : Int64) =>
           lt1 (r_3078.toInt64) fun (x_3371 : Int64) =>
           lt1 ((x_3370 : Int64) + x_3371) fun (x_3372 : Int64) =>
           lt1 ((x_3372 : Int64) - 96) fun (x_3373 : Int64) =>
           lt1 ((y215_2 : Int32) - y215_3) fun (x_3374 : Int32) =>
           if (3 : Int32) ≤ x_3374 then (
            lt1 ((y215_2 : Int32) + 1) fun (x_3380 : Int32) =>
            y_X12_go_215 h0_size h0_sign F_h0_tape n215 y215_0 1 x_3380 y215_3 y215_4 x_3373
           ) else (
            lt1 ((10 : Int32) * y215_4) fun (x_3385 : Int32) =>
            lt1 ((x_3385 : Int32) + r_3078) fun (x_3386 : Int32) =>
            lt1 ((x_3386 : Int32) - 48) fun (x_3387 : Int32) =>
            lt1 ((y215_2 : Int32) + 1) fun (x_3388 : Int32) =>
            y_X12_go_215 h0_size h0_sign F_h0_tape n215 y215_0 1 x_3388 y215_3 x_3387 x_3373
           )
          )
         ) else (
          lt1 ((y215_2 : Int32) - y215_3) fun (x_3296 : Int32) =>
          if (7 : Int32) ≤ x_3296 then (
           lt1 ((y215_2 : Int32) - y215_3) fun (x_3302 : Int32) =>
           if (3 : Int32) ≤ x_3302 then (
            lt1 ((y215_2 : Int32) + 1) fun (x_3308 : Int32) =>
            y_X12_go_215 h0_size h0_sign F_h0_tape n215 y215_0 0 x_3308 y215_3 y215_4 y215_5
           ) else (
            lt1 ((10 : Int32) * y215_4) fun (x_3313 : Int32) =>
            lt1 ((x_3313 : Int32) + r_3078) fun (x_3314 : Int32) =>
            lt1 ((x_3314 : Int32) - 48) fun (x_3315 : Int32) =>
            lt1 ((y215_2 : Int32) + 1) fun (x_3316 : Int32) =>
            y_X12_go_215 h0_size h0_sign F_h0_tape n215 y215_0 0 x_3316 y215_3 x_3315 y215_5
           )
          ) else (
           lt1 ((27 : Int64) * y215_5) fun (x_3321 : Int64) =>
           lt1 (r_3078.toInt64) fun (x_3322 : Int64) =>
           lt1 ((x_3321 : Int64) + x_3322) fun (x_3323 : Int64) =>
           lt1 ((x_3323 : Int64) - 96) fun (x_3324 : Int64) =>
           lt1 ((y215_2 : Int32) - y215_3) fun (x_3325 : Int32) =>
           if (3 : Int32) ≤ x_3325 then (
            lt1 ((y215_2 : Int32) + 1) fun (x_3331 : Int32) =>
            y_X12_go_215 h0_size h0_sign F_h0_tape n215 y215_0 0 x_3331 y215_3 y215_4 x_3324
           ) else (
            lt1 ((10 : Int32) * y215_4) fun (x_3336 : Int32) =>
            lt1 ((x_3336 : Int32) + r_3078) fun (x_3337 : Int32) =>
            lt1 ((x_3337 : Int32) - 48) fun (x_3338 : Int32) =>
            lt1 ((y215_2 : Int32) + 1) fun (x_3339 : Int32) =>
            y_X12_go_215 h0_size h0_sign F_h0_tape n215 y215_0 0 x_3339 y215_3 x_3338 x_3324
           )
          )
         )
        ) else (
         if (122 : Int32) < r_3078 then (
          (0, 0, 0, 0, 0, 0)
         ) else (
          (0, 0, 0, 0, 0, 0)
         )
        )
       )
      )
     )
    )
   ) else (
    if (122 : Int32) < r_3078 then (
     lt1 (y_X12_tapeAt y215_2 h0_size F_h0_tape) fun (r_3392 : Int32) =>
     if h0_size ≤ y215_2 then (
      (0, 0, 0, 0, 0, 0)
     ) else (
      lt1 (y_X12_isDigit r_3078) fun (r_3406 : Int32) =>
      if (r_3078 : Int32) < 48 then (
       (0, 0, 0, 0, 0, 0)
      ) else (
       if (57 : Int32) < r_3078 then (
        if (y215_1 : Int32) = 0 then (
         y_X12_go_377 h0_sign y215_2 y215_3 y215_4 y215_5
        ) else (
         lt1 ((y215_2 : Int32) - y215_3) fun (x_3427 : Int32) =>
         if (y215_0 : Int32) = 0 then (
          y_X12_go_374 h0_sign y215_0 3 x_3427 y215_2 y215_3 y215_4 y215_5
         ) else (
          y_X12_go_374 h0_sign y215_0 7 x_3427 y215_2 y215_3 y215_4 y215_5
         )
        )
       ) else (
        (0, 0, 0, 0, 0, 0)
       )
      )
     )
    ) else (
     if (y215_1 : Int32) = 0 then (
      lt1 ((y215_2 : Int32) - y215_3) fun (x_3439 : Int32) =>
      if (7 : Int32) ≤ x_3439 then (
       lt1 ((y215_2 : Int32) - y215_3) fun (x_3445 : Int32) =>
       if (3 : Int32) ≤ x_3445 then (
        lt1 ((y215_2 : Int32) + 1) fun (x_3451 : Int32) =>
        y_X12_go_215 h0_size h0_sign F_h0_tape n215 y215_0 0 x_3451 y215_3 y215_4 y215_5
       ) else (
        lt1 ((10 : Int32) * y215_4) fun (x_3456 : Int32) =>
        lt1 ((x_3456 : Int32) + r_3078) fun (x_3457 : Int32) =>
        lt1 ((x_3457 : Int32) - 48) fun (x_3458 : Int32) =>
        lt1 ((y215_2 : Int32) + 1) fun (x_3459 : Int32) =>
        y_X12_go_215 h0_size h0_sign F_h0_tape n215 y215_0 0 x_3459 y215_3 x_3458 y215_5
       )
      ) else (
       lt1 ((27 : Int64) * y215_5) fun (x_3464 : Int64) =>
       lt1 (r_3078.toInt64) fun (x_3465 : Int64) =>
       lt1 ((x_3464 : Int64) + x_3465) fun (x_3466 : Int64) =>
       lt1 ((x_3466 : Int64) - 96) fun (x_3467 : Int64) =>
       lt1 ((y215_2 : Int32) - y215_3) fun (x_3468 : Int32) =>
       if (3 : Int32) ≤ x_3468 then (
        lt1 ((y215_2 : Int32) + 1) fun (x_3474 : Int32) =>
        y_X12_go_215 h0_size h0_sign F_h0_tape n215 y215_0 0 x_3474 y215_3 y215_4 x_3467
       ) else (
        lt1 ((10 : Int32) * y215_4) fun (x_3479 : Int32) =>
        lt1 ((x_3479 : Int32) + r_3078) fun (x_3480 : Int32) =>
        lt1 ((x_3480 : Int32) - 48) fun (x_3481 : Int32) =>
        lt1 ((y215_2 : Int32) + 1) fun (x_3482 : Int32) =>
        y_X12_go_215 h0_size h0_sign F_h0_tape n215 y215_0 0 x_3482 y215_3 x_3481 x_3467
       )
      )
     ) else (
      lt1 (y_X12_isLetter r_3078) fun (r_3486 : Int32) =>
      if (r_3078 : Int32) < 97 then (
       (0, 0, 0, 0, 0, 0)
      ) else (
       if (122 : Int32) < r_3078 then (
        (0, 0, 0, 0, 0, 0)
       ) else (
        if (1 : Int32) = y215_0 then (
         lt1 ((y215_2 : Int32) - y215_3) fun (x_3553 : Int32) =>
         if (7 : Int32) ≤ x_3553 then (
          lt1 ((y215_2 : Int32) - y215_3) fun (x_3559 : Int32) =>
          if (3 : Int32) ≤ x_3559 then (
           lt1 ((y215_2 : Int32) + 1) fun (x_3565 : Int32) =>
           y_X12_go_215 h0_size h0_sign F_h0_tape n215 y215_0 1 x_3565 y215_3 y215_4 y215_5
          ) else (
           lt1 ((10 : Int32) * y215_4) fun (x_3570 : Int32) =>
           lt1 ((x_3570 : Int32) + r_3078) fun (x_3571 : Int32) =>
           lt1 ((x_3571 : Int32) - 48) fun (x_3572 : Int32) =>
           lt1 ((y215_2 : Int32) + 1) fun (x_3573 : Int32) =>
           y_X12_go_215 h0_size h0_sign F_h0_tape n215 y215_0 1 x_3573 y215_3 x_3572 y215_5
          )
         ) else (
          lt1 ((27 : Int64) * y215_5) fun (x_3578 : Int64) =>
          lt1 (r_3078.toInt64) fun (x_3579 : Int64) =>
          lt1 ((x_3578 : Int64) + x_3579) fun (x_3580 : Int64) =>
          lt1 ((x_3580 : Int64) - 96) fun (x_3581 : Int64) =>
          lt1 ((y215_2 : Int32) - y215_3) fun (x_3582 : Int32) =>
          if (3 : Int32) ≤ x_3582 then (
           lt1 ((y215_2 : Int32) + 1) fun (x_3588 : Int32) =>
           y_X12_go_215 h0_size h0_sign F_h0_tape n215 y215_0 1 x_3588 y215_3 y215_4 x_3581
          ) else (
           lt1 ((10 : Int32) * y215_4) fun (x_3593 : Int32) =>
           lt1 ((x_3593 : Int32) + r_3078) fun (x_3594 : Int32) =>
           lt1 ((x_3594 : Int32) - 48) fun (x_3595 : Int32) =>
           lt1 ((y215_2 : Int32) + 1) fun (x_3596 : Int32) =>
           y_X12_go_215 h0_size h0_sign F_h0_tape n215 y215_0 1 x_3596 y215_3 x_3595 x_3581
          )
         )
        ) else (
         lt1 ((y215_2 : Int32) - y215_3) fun (x_3504 : Int32) =>
         if (7 : Int32) ≤ x_3504 then (
          lt1 ((y215_2 : Int32) - y215_3) fun (x_3510 : Int32) =>
          if (3 : Int32) ≤ x_3510 then (
           lt1 ((y215_2 : Int32) + 1) fun (x_3516 : Int32) =>
           y_X12_go_215 h0_size h0_sign F_h0_tape n215 y215_0 0 x_3516 y215_3 y215_4 y215_5
          ) else (
           lt1 ((10 : Int32) * y215_4) fun (x_3521 : Int32) =>
           lt1 ((x_3521 : Int32) + r_3078) fun (x_3522 : Int32) =>
           lt1 ((x_3522 : Int32) - 48) fun (x_3523 : Int32) =>
           lt1 ((y215_2 : Int32) + 1) fun (x_3524 : Int32) =>
           y_X12_go_215 h0_size h0_sign F_h0_tape n215 y215_0 0 x_3524 y215_3 x_3523 y215_5
          )
         ) else (
          lt1 ((27 : Int64) * y215_5) fun (x_3529 : Int64) =>
          lt1 (r_3078.toInt64) fun (x_3530 : Int64) =>
          lt1 ((x_3529 : Int64) + x_3530) fun (x_3531 : Int64) =>
          lt1 ((x_3531 : Int64) - 96) fun (x_3532 : Int64) =>
          lt1 ((y215_2 : Int32) - y215_3) fun (x_3533 : Int32) =>
          if (3 : Int32) ≤ x_3533 then (
           lt1 ((y215_2 : Int32) + 1) fun (x_3539 : Int32) =>
           y_X12_go_215 h0_size h0_sign F_h0_tape n215 y215_0 0 x_3539 y215_3 y215_4 x_3532
          ) else (
           lt1 ((10 : Int32) * y215_4) fun (x_3544 : Int32) =>
           lt1 ((x_3544 : Int32) + r_3078) fun (x_3545 : Int32) =>
           lt1 ((x_3545 : Int32) - 48) fun (x_3546 : Int32) =>
           lt1 ((y215_2 : Int32) + 1) fun (x_3547 : Int32) =>
           y_X12_go_215 h0_size h0_sign F_h0_tape n215 y215_0 0 x_3547 y215_3 x_3546 x_3532
          )
         )
        )
       )
      )
     )
    )
   )
  )
theorem y_X12_go_215_s (h0_size : Int32) (h0_sign : Int32) (F_h0_tape : Nat → Int32) (n215 : Nat) (y215_0 : Int32) (y215_1 : Int32) (y215_2 : Int32) (y215_3 : Int32) (y215_4 : Int32) (y215_5 : Int64) : y_X12_go_215 h0_size h0_sign F_h0_tape (n215 + 1) y215_0 y215_1 y215_2 y215_3 y215_4 y215_5 = (
  lt1 (y_X12_tapeAt y215_2 h0_size F_h0_tape) fun (r_3078 : Int32) =>
  if h0_size ≤ y215_2 then (
   lt1 (y_X12_isLetter 0) fun (r_3091 : Int32) =>
   if (0 : Int32) < 97 then (
    lt1 (y_X12_tapeAt y215_2 h0_size F_h0_tape) fun (r_3107 : Int32) =>
    if h0_size ≤ y215_2 then (
     lt1 (y_X12_isDigit 0) fun (r_3120 : Int32) =>
     if (0 : Int32) < 48 then (
      if (y215_1 : Int32) = 0 then (
       y_X12_go_377 h0_sign y215_2 y215_3 y215_4 y215_5
      ) else (
       lt1 ((y215_2 : Int32) - y215_3) fun (x_3141 : Int32) =>
       if (y215_0 : Int32) = 0 then (
        y_X12_go_374 h0_sign y215_0 3 x_3141 y215_2 y215_3 y215_4 y215_5
       ) else (
        y_X12_go_374 h0_sign y215_0 7 x_3141 y215_2 y215_3 y215_4 y215_5
       )
      )
     ) else (
      if (57 : Int32) < 0 then (
       (0, 0, 0, 0, 0, 0)
      ) else (
       (0, 0, 0, 0, 0, 0)
      )
     )
    ) else (
     (0, 0, 0, 0, 0, 0)
    )
   ) else (
    if (122 : Int32) < 0 then (
     (0, 0, 0, 0, 0, 0)
    ) else (
     (0, 0, 0, 0, 0, 0)
    )
   )
  ) else (
   lt1 (y_X12_isLetter r_3078) fun (r_3152 : Int32) =>
   if (r_3078 : Int32) < 97 then (
    lt1 (y_X12_tapeAt y215_2 h0_size F_h0_tape) fun (r_3169 : Int32) =>
    if h0_size ≤ y215_2 then (
     (0, 0, 0, 0, 0, 0)
    ) else (
     lt1 (y_X12_isDigit r_3078) fun (r_3183 : Int32) =>
     if (r_3078 : Int32) < 48 then (
      if (y215_1 : Int32) = 0 then (
       y_X12_go_377 h0_sign y215_2 y215_3 y215_4 y215_5
      ) else (
       lt1 ((y215_2 : Int32) - y215_3) fun (x_3205 : Int32) =>
       if (y215_0 : Int32) = 0 then (
        y_X12_go_374 h0_sign y215_0 3 x_3205 y215_2 y215_3 y215_4 y215_5
       ) else (
        y_X12_go_374 h0_sign y215_0 7 x_3205 y215_2 y215_3 y215_4 y215_5
       )
      )
     ) else (
      if (57 : Int32) < r_3078 then (
       if (y215_1 : Int32) = 0 then (
        y_X12_go_377 h0_sign y215_2 y215_3 y215_4 y215_5
       ) else (
        lt1 ((y215_2 : Int32) - y215_3) fun (x_3219 : Int32) =>
        if (y215_0 : Int32) = 0 then (
         y_X12_go_374 h0_sign y215_0 3 x_3219 y215_2 y215_3 y215_4 y215_5
        ) else (
         y_X12_go_374 h0_sign y215_0 7 x_3219 y215_2 y215_3 y215_4 y215_5
        )
       )
      ) else (
       if (y215_1 : Int32) = 0 then (
        lt1 ((y215_2 : Int32) - y215_3) fun (x_3231 : Int32) =>
        if (7 : Int32) ≤ x_3231 then (
         lt1 ((y215_2 : Int32) - y215_3) fun (x_3237 : Int32) =>
         if (3 : Int32) ≤ x_3237 then (
          lt1 ((y215_2 : Int32) + 1) fun (x_3243 : Int32) =>
          y_X12_go_215 h0_size h0_sign F_h0_tape n215 y215_0 0 x_3243 y215_3 y215_4 y215_5
         ) else (
          lt1 ((10 : Int32) * y215_4) fun (x_3248 : Int32) =>
          lt1 ((x_3248 : Int32) + r_3078) fun (x_3249 : Int32) =>
          lt1 ((x_3249 : Int32) - 48) fun (x_3250 : Int32) =>
          lt1 ((y215_2 : Int32) + 1) fun (x_3251 : Int32) =>
          y_X12_go_215 h0_size h0_sign F_h0_tape n215 y215_0 0 x_3251 y215_3 x_3250 y215_5
         )
        ) else (
         lt1 ((27 : Int64) * y215_5) fun (x_3256 : Int64) =>
         lt1 (r_3078.toInt64) fun (x_3257 : Int64) =>
         lt1 ((x_3256 : Int64) + x_3257) fun (x_3258 : Int64) =>
         lt1 ((x_3258 : Int64) - 96) fun (x_3259 : Int64) =>
         lt1 ((y215_2 : Int32) - y215_3) fun (x_3260 : Int32) =>
         if (3 : Int32) ≤ x_3260 then (
          lt1 ((y215_2 : Int32) + 1) fun (x_3266 : Int32) =>
          y_X12_go_215 h0_size h0_sign F_h0_tape n215 y215_0 0 x_3266 y215_3 y215_4 x_3259
         ) else (
          lt1 ((10 : Int32) * y215_4) fun (x_3271 : Int32) =>
          lt1 ((x_3271 : Int32) + r_3078) fun (x_3272 : Int32) =>
          lt1 ((x_3272 : Int32) - 48) fun (x_3273 : Int32) =>
          lt1 ((y215_2 : Int32) + 1) fun (x_3274 : Int32) =>
          y_X12_go_215 h0_size h0_sign F_h0_tape n215 y215_0 0 x_3274 y215_3 x_3273 x_3259
         )
        )
       ) else (
        lt1 (y_X12_isLetter r_3078) fun (r_3278 : Int32) =>
        if (r_3078 : Int32) < 97 then (
         if (0 : Int32) = y215_0 then (
          lt1 ((y215_2 : Int32) - y215_3) fun (x_3345 : Int32) =>
          if (7 : Int32) ≤ x_3345 then (
           lt1 ((y215_2 : Int32) - y215_3) fun (x_3351 : Int32) =>
           if (3 : Int32) ≤ x_3351 then (
            lt1 ((y215_2 : Int32) + 1) fun (x_3357 : Int32) =>
            y_X12_go_215 h0_size h0_sign F_h0_tape n215 y215_0 1 x_3357 y215_3 y215_4 y215_5
           ) else (
            lt1 ((10 : Int32) * y215_4) fun (x_3362 : Int32) =>
            lt1 ((x_3362 : Int32) + r_3078) fun (x_3363 : Int32) =>
            lt1 ((x_3363 : Int32) - 48) fun (x_3364 : Int32) =>
            lt1 ((y215_2 : Int32) + 1) fun (x_3365 : Int32) =>
            y_X12_go_215 h0_size h0_sign F_h0_tape n215 y215_0 1 x_3365 y215_3 x_3364 y215_5
           )
          ) else (
           lt1 ((27 : Int64) * y215_5) fun (x_3370 : Int64) =>
           lt1 (r_3078.toInt64) fun (x_3371 : Int64) =>
           lt1 ((x_3370 : Int64) + x_3371) fun (x_3372 : Int64) =>
           lt1 ((x_3372 : Int64) - 96) fun (x_3373 : Int64) =>
           lt1 ((y215_2 : Int32) - y215_3) fun (x_3374 : Int32) =>
           if (3 : Int32) ≤ x_3374 then (
            lt1 ((y215_2 : Int32) + 1) fun (x_3380 : Int32) =>
            y_X12_go_215 h0_size h0_sign F_h0_tape n215 y215_0 1 x_3380 y215_3 y215_4 x_3373
           ) else (
            lt1 ((10 : Int32) * y215_4) fun (x_3385 : Int32) =>
            lt1 ((x_3385 : Int32) + r_3078) fun (x_3386 : Int32) =>
            lt1 ((x_3386 : Int32) - 48) fun (x_3387 : Int32) =>
            lt1 ((y215_2 : Int32) + 1) fun (x_3388 : Int32) =>
            y_X12_go_215 h0_size h0_sign F_h0_tape n215 y215_0 1 x_3388 y215_3 x_3387 x_3373
           )
          )
         ) else (
          lt1 ((y215_2 : Int32) - y215_3) fun (x_3296 : Int32) =>
          if (7 : Int32) ≤ x_3296 then (
           lt1 ((y215_2 : Int32) - y215_3) fun (x_3302 : Int32) =>
           if (3 : Int32) ≤ x_3302 then (
            lt1 ((y215_2 : Int32) + 1) fun (x_3308 : Int32) =>
            y_X12_go_215 h0_size h0_sign F_h0_tape n215 y215_0 0 x_3308 y215_3 y215_4 y215_5
           ) else (
            lt1 ((10 : Int32) * y215_4) fun (x_3313 : Int32) =>
            lt1 ((x_3313 : Int32) + r_3078) fun (x_3314 : Int32) =>
            lt1 ((x_3314 : Int32) - 48) fun (x_3315 : Int32) =>
            lt1 ((y215_2 : Int32) + 1) fun (x_3316 : Int32) =>
            y_X12_go_215 h0_size h0_sign F_h0_tape n215 y215_0 0 x_3316 y215_3 x_3315 y215_5
           )
          ) else (
           lt1 ((27 : Int64) * y215_5) fun (x_3321 : Int64) =>
           lt1 (r_3078.toInt64) fun (x_3322 : Int64) =>
           lt1 ((x_3321 : Int64) + x_3322) fun (x_3323 : Int64) =>
           lt1 ((x_3323 : Int64) - 96) fun (x_3324 : Int64) =>
           lt1 ((y215_2 : Int32) - y215_3) fun (x_3325 : Int32) =>
           if (3 : Int32) ≤ x_3325 then (
            lt1 ((y215_2 : Int32) + 1) fun (x_3331 : Int32) =>
            y_X12_go_215 h0_size h0_sign F_h0_tape n215 y215_0 0 x_3331 y215_3 y215_4 x_3324
           ) else (
            lt1 ((10 : Int32) * y215_4) fun (x_3336 : Int32) =>
            lt1 ((x_3336 : Int32) + r_3078) fun (x_3337 : Int32) =>
            lt1 ((x_3337 : Int32) - 48) fun (x_3338 : Int32) =>
            lt1 ((y215_2 : Int32) + 1) fun (x_3339 : Int32) =>
            y_X12_go_215 h0_size h0_sign F_h0_tape n215 y215_0 0 x_3339 y215_3 x_3338 x_3324
           )
          )
         )
        ) else (
         if (122 : Int32) < r_3078 then (
          (0, 0, 0, 0, 0, 0)
         ) else (
          (0, 0, 0, 0, 0, 0)
         )
        )
       )
      )
     )
    )
   ) else (
    if (122 : Int32) < r_3078 then (
     lt1 (y_X12_tapeAt y215_2 h0_size F_h0_tape) fun (r_3392 : Int32) =>
     if h0_size ≤ y215_2 then (
      (0, 0, 0, 0, 0, 0)
     ) else (
      lt1 (y_X12_isDigit r_3078) fun (r_3406 : Int32) =>
      if (r_3078 : Int32) < 48 then (
       (0, 0, 0, 0, 0, 0)
      ) else (
       if (57 : Int32) < r_3078 then (
        if (y215_1 : Int32) = 0 then (
         y_X12_go_377 h0_sign y215_2 y215_3 y215_4 y215_5
        ) else (
         lt1 ((y215_2 : Int32) - y215_3) fun (x_3427 : Int32) =>
         if (y215_0 : Int32) = 0 then (
          y_X12_go_374 h0_sign y215_0 3 x_3427 y215_2 y215_3 y215_4 y215_5
         ) else (
          y_X12_go_374 h0_sign y215_0 7 x_3427 y215_2 y215_3 y215_4 y215_5
         )
        )
       ) else (
        (0, 0, 0, 0, 0, 0)
       )
      )
     )
    ) else (
     if (y215_1 : Int32) = 0 then (
      lt1 ((y215_2 : Int32) - y215_3) fun (x_3439 : Int32) =>
      if (7 : Int32) ≤ x_3439 then (
       lt1 ((y215_2 : Int32) - y215_3) fun (x_3445 : Int32) =>
       if (3 : Int32) ≤ x_3445 then (
        lt1 ((y215_2 : Int32) + 1) fun (x_3451 : Int32) =>
        y_X12_go_215 h0_size h0_sign F_h0_tape n215 y215_0 0 x_3451 y215_3 y215_4 y215_5
       ) else (
        lt1 ((10 : Int32) * y215_4) fun (x_3456 : Int32) =>
        lt1 ((x_3456 : Int32) + r_3078) fun (x_3457 : Int32) =>
        lt1 ((x_3457 : Int32) - 48) fun (x_3458 : Int32) =>
        lt1 ((y215_2 : Int32) + 1) fun (x_3459 : Int32) =>
        y_X12_go_215 h0_size h0_sign F_h0_tape n215 y215_0 0 x_3459 y215_3 x_3458 y215_5
       )
      ) else (
       lt1 ((27 : Int64) * y215_5) fun (x_3464 : Int64) =>
       lt1 (r_3078.toInt64) fun (x_3465 : Int64) =>
       lt1 ((x_3464 : Int64) + x_3465) fun (x_3466 : Int64) =>
       lt1 ((x_3466 : Int64) - 96) fun (x_3467 : Int64) =>
       lt1 ((y215_2 : Int32) - y215_3) fun (x_3468 : Int32) =>
       if (3 : Int32) ≤ x_3468 then (
        lt1 ((y215_2 : Int32) + 1) fun (x_3474 : Int32) =>
        y_X12_go_215 h0_size h0_sign F_h0_tape n215 y215_0 0 x_3474 y215_3 y215_4 x_3467
       ) else (
        lt1 ((10 : Int32) * y215_4) fun (x_3479 : Int32) =>
        lt1 ((x_3479 : Int32) + r_3078) fun (x_3480 : Int32) =>
        lt1 ((x_3480 : Int32) - 48) fun (x_3481 : Int32) =>
        lt1 ((y215_2 : Int32) + 1) fun (x_3482 : Int32) =>
        y_X12_go_215 h0_size h0_sign F_h0_tape n215 y215_0 0 x_3482 y215_3 x_3481 x_3467
       )
      )
     ) else (
      lt1 (y_X12_isLetter r_3078) fun (r_3486 : Int32) =>
      if (r_3078 : Int32) < 97 then (
       (0, 0, 0, 0, 0, 0)
      ) else (
       if (122 : Int32) < r_3078 then (
        (0, 0, 0, 0, 0, 0)
       ) else (
        if (1 : Int32) = y215_0 then (
         lt1 ((y215_2 : Int32) - y215_3) fun (x_3553 : Int32) =>
         if (7 : Int32) ≤ x_3553 then (
          lt1 ((y215_2 : Int32) - y215_3) fun (x_3559 : Int32) =>
          if (3 : Int32) ≤ x_3559 then (
           lt1 ((y215_2 : Int32) + 1) fun (x_3565 : Int32) =>
           y_X12_go_215 h0_size h0_sign F_h0_tape n215 y215_0 1 x_3565 y215_3 y215_4 y215_5
          ) else (
           lt1 ((10 : Int32) * y215_4) fun (x_3570 : Int32) =>
           lt1 ((x_3570 : Int32) + r_3078) fun (x_3571 : Int32) =>
           lt1 ((x_3571 : Int32) - 48) fun (x_3572 : Int32) =>
           lt1 ((y215_2 : Int32) + 1) fun (x_3573 : Int32) =>
           y_X12_go_215 h0_size h0_sign F_h0_tape n215 y215_0 1 x_3573 y215_3 x_3572 y215_5
          )
         ) else (
          lt1 ((27 : Int64) * y215_5) fun (x_3578 : Int64) =>
          lt1 (r_3078.toInt64) fun (x_3579 : Int64) =>
          lt1 ((x_3578 : Int64) + x_3579) fun (x_3580 : Int64) =>
          lt1 ((x_3580 : Int64) - 96) fun (x_3581 : Int64) =>
          lt1 ((y215_2 : Int32) - y215_3) fun (x_3582 : Int32) =>
          if (3 : Int32) ≤ x_3582 then (
           lt1 ((y215_2 : Int32) + 1) fun (x_3588 : Int32) =>
           y_X12_go_215 h0_size h0_sign F_h0_tape n215 y215_0 1 x_3588 y215_3 y215_4 x_3581
          ) else (
           lt1 ((10 : Int32) * y215_4) fun (x_3593 : Int32) =>
           lt1 ((x_3593 : Int32) + r_3078) fun (x_3594 : Int32) =>
           lt1 ((x_3594 : Int32) - 48) fun (x_3595 : Int32) =>
           lt1 ((y215_2 : Int32) + 1) fun (x_3596 : Int32) =>
           y_X12_go_215 h0_size h0_sign F_h0_tape n215 y215_0 1 x_3596 y215_3 x_3595 x_3581
          )
         )
        ) else (
         lt1 ((y215_2 : Int32) - y215_3) fun (x_3504 : Int32) =>
         if (7 : Int32) ≤ x_3504 then (
          lt1 ((y215_2 : Int32) - y215_3) fun (x_3510 : Int32) =>
          if (3 : Int32) ≤ x_3510 then (
           lt1 ((y215_2 : Int32) + 1) fun (x_3516 : Int32) =>
           y_X12_go_215 h0_size h0_sign F_h0_tape n215 y215_0 0 x_3516 y215_3 y215_4 y215_5
          ) else (
           lt1 ((10 : Int32) * y215_4) fun (x_3521 : Int32) =>
           lt1 ((x_3521 : Int32) + r_3078) fun (x_3522 : Int32) =>
           lt1 ((x_3522 : Int32) - 48) fun (x_3523 : Int32) =>
           lt1 ((y215_2 : Int32) + 1) fun (x_3524 : Int32) =>
           y_X12_go_215 h0_size h0_sign F_h0_tape n215 y215_0 0 x_3524 y215_3 x_3523 y215_5
          )
         ) else (
          lt1 ((27 : Int64) * y215_5) fun (x_3529 : Int64) =>
          lt1 (r_3078.toInt64) fun (x_3530 : Int64) =>
          lt1 ((x_3529 : Int64) + x_3530) fun (x_3531 : Int64) =>
          lt1 ((x_3531 : Int64) - 96) fun (x_3532 : Int64) =>
          lt1 ((y215_2 : Int32) - y215_3) fun (x_3533 : Int32) =>
          if (3 : Int32) ≤ x_3533 then (
           lt1 ((y215_2 : Int32) + 1) fun (x_3539 : Int32) =>
           y_X12_go_215 h0_size h0_sign F_h0_tape n215 y215_0 0 x_3539 y215_3 y215_4 x_3532
          ) else (
           lt1 ((10 : Int32) * y215_4) fun (x_3544 : Int32) =>
           lt1 ((x_3544 : Int32) + r_3078) fun (x_3545 : Int32) =>
           lt1 ((x_3545 : Int32) - 48) fun (x_3546 : Int32) =>
           lt1 ((y215_2 : Int32) + 1) fun (x_3547 : Int32) =>
           y_X12_go_215 h0_size h0_sign F_h0_tape n215 y215_0 0 x_3547 y215_3 x_3546 x_3532
          )
         )
        )
       )
      )
     )
    )
   )
  )) := rfl
def y_X12_go_96 (h0_size : Int32) (h0_number : Int32) (h0_sign : Int32) (h0_word : Int64) (F_h0_tape : Nat → Int32) (y96_0 : Int32) (y96_1 : Int32) : Int32 × Int32 × Int32 × Int32 × Int32 × Int64 :=
  if (y96_0 : Int32) < h0_size then (
   lt1 (F_h0_tape (y96_0 : Int32).toNatClampNeg) fun (x_3609 : Int32) =>
   lt1 (y_X12_isLetter x_3609) fun (r_3611 : Int32) =>
   if (x_3609 : Int32) < 97 then (
    lt1 (y_X12_isDigit x_3609) fun (r_3628 : Int32) =>
    if (x_3609 : Int32) < 48 then (
     if (x_3609 : Int32) = 40 then (
      y_X12_go_174 h0_number h0_word x_3609 y96_0 y96_1
     ) else (
      if (x_3609 : Int32) = 41 then (
       y_X12_go_174 h0_number h0_word x_3609 y96_0 y96_1
      ) else (
       y_X12_go_179 h0_number h0_word x_3609 1 y96_0 y96_1
      )
     )
    ) else (
     if (57 : Int32) < x_3609 then (
      if (x_3609 : Int32) = 59 then (
       y_X12_go_174 h0_number h0_word x_3609 y96_0 y96_1
      ) else (
       if (x_3609 : Int32) = 60 then (
        y_X12_go_174 h0_number h0_word x_3609 y96_0 y96_1
       ) else (
        if (x_3609 : Int32) = 61 then (
         y_X12_go_174 h0_number h0_word x_3609 y96_0 y96_1
        ) else (
         if (x_3609 : Int32) = 62 then (
          y_X12_go_174 h0_number h0_word x_3609 y96_0 y96_1
         ) else (
          y_X12_go_179 h0_number h0_word x_3609 1 y96_0 y96_1
         )
        )
       )
      )
     ) else (
      lt1 (y_X12_isLetter x_3609) fun (r_3676 : Int32) =>
      if (x_3609 : Int32) < 97 then (
       lt1 (y_X12_tapeAt y96_0 h0_size F_h0_tape) fun (r_3692 : Int32) =>
       if h0_size ≤ y96_0 then (
        (0, 0, 0, 0, 0, 0)
       ) else (
        lt1 (y_X12_isLetter x_3609) fun (r_3706 : Int32) =>
        if (x_3609 : Int32) < 97 then (
         lt1 (y_X12_tapeAt y96_0 h0_size F_h0_tape) fun (r_3722 : Int32) =>
         if h0_size ≤ y96_0 then (
          (0, 0, 0, 0, 0, 0)
         ) else (
          lt1 (y_X12_isDigit x_3609) fun (r_3736 : Int32) =>
          if (x_3609 : Int32) < 48 then (
           (0, 0, 0, 0, 0, 0)
          ) else (
           if (57 : Int32) < x_3609 then (
            (0, 0, 0, 0, 0, 0)
           ) else (
            lt1 (y_X12_isLetter x_3609) fun (r_3752 : Int32) =>
            if (x_3609 : Int32) < 97 then (
             lt1 ((y96_0 : Int32) - y96_1) fun (x_3768 : Int32) =>
             if (7 : Int32) ≤ x_3768 then (
              lt1 ((y96_0 : Int32) - y96_1) fun (x_3774 : Int32) =>
              if (3 : Int32) ≤ x_3774 then (
               lt1 ((y96_0 : Int32) + 1) fun (x_3780 : Int32) =>
               y_X12_go_215 h0_size h0_sign F_h0_tape 940 0 1 x_3780 y96_1 0 0
              ) else (
               lt1 ((0 : Int32) + x_3609) fun (x_3785 : Int32) =>
               lt1 ((x_3785 : Int32) - 48) fun (x_3788 : Int32) =>
               lt1 ((y96_0 : Int32) + 1) fun (x_3791 : Int32) =>
               y_X12_go_215 h0_size h0_sign F_h0_tape 940 0 1 x_3791 y96_1 x_3788 0
              )
             ) else (
              lt1 (x_3609.toInt64) fun (x_3796 : Int64) =>
              lt1 ((0 : Int64) + x_3796) fun (x_3797 : Int64) =>
              lt1 ((x_3797 : Int64) - 96) fun (x_3798 : Int64) =>
              lt1 ((y96_0 : Int32) - y96_1) fun (x_3799 : Int32) =>
              if (3 : Int32) ≤ x_3799 then (
               lt1 ((y96_0 : Int32) + 1) fun (x_3805 : Int32) =>
               y_X12_go_215 h0_size h0_sign F_h0_tape 940 0 1 x_3805 y96_1 0 x_3798
              ) else (
               lt1 ((0 : Int32) + x_3609) fun (x_3810 : Int32) =>
               lt1 ((x_3810 : Int32) - 48) fun (x_3813 : Int32) =>
               lt1 ((y96_0 : Int32) + 1) fun (x_3816 : Int32) =>
               y_X12_go_215 h0_size h0_sign F_h0_tape 940 0 1 x_3816 y96_1 x_3813 x_3798
              )
             )
            ) else (
             if (122 : Int32) < x_3609 then (
              (0, 0, 0, 0, 0, 0)
             ) else (
              (0, 0, 0, 0, 0, 0)
             )
            )
           )
          )
         )
        ) else (
         if (122 : Int32) < x_3609 then (
          (0, 0, 0, 0, 0, 0)
         ) else (
          (0, 0, 0, 0, 0, 0)
         )
        )
       )
      ) else (
       if (122 : Int32) < x_3609 then (
        (0, 0, 0, 0, 0, 0)
       ) else (
        (0, 0, 0, 0, 0, 0)
       )
      )
     )
    )
   ) else (
    if (122 : Int32) < x_3609 then (
     lt1 (y_X12_isDigit x_3609) fun (r_3820 : Int32) =>
     if (x_3609 : Int32) < 48 then (
      (0, 0, 0, 0, 0, 0)
     ) else (
      if (57 : Int32) < x_3609 then (
       y_X12_go_179 h0_number h0_word x_3609 1 y96_0 y96_1
      ) else (
       (0, 0, 0, 0, 0, 0)
      )
     )
    ) else (
     lt1 (y_X12_isLetter x_3609) fun (r_3836 : Int32) =>
     if (x_3609 : Int32) < 97 then (
      (0, 0, 0, 0, 0, 0)
     ) else (
      if (122 : Int32) < x_3609 then (
       (0, 0, 0, 0, 0, 0)
      ) else (
       lt1 (y_X12_tapeAt y96_0 h0_size F_h0_tape) fun (r_3852 : Int32) =>
       if h0_size ≤ y96_0 then (
        (0, 0, 0, 0, 0, 0)
       ) else (
        lt1 (y_X12_isLetter x_3609) fun (r_3866 : Int32) =>
        if (x_3609 : Int32) < 97 then (
         (0, 0, 0, 0, 0, 0)
        ) else (
         if (122 : Int32) < x_3609 then (
          (0, 0, 0, 0, 0, 0)
         ) else (
          lt1 (y_X12_isLetter x_3609) fun (r_3882 : Int32) =>
          if (x_3609 : Int32) < 97 then (
           (0, 0, 0, 0, 0, 0)
          ) else (
           if (122 : Int32) < x_3609 then (
            (0, 0, 0, 0, 0, 0)
           ) else (
            lt1 ((y96_0 : Int32) - y96_1) fun (x_3898 : Int32) =>
            if (7 : Int32) ≤ x_3898 then (
             lt1 ((y96_0 : Int32) - y96_1) fun (x_3904 : Int32) =>
             if (3 : Int32) ≤ x_3904 then (
              lt1 ((y96_0 : Int32) + 1) fun (x_3910 : Int32) =>
              y_X12_go_215 h0_size h0_sign F_h0_tape 940 1 1 x_3910 y96_1 0 0
             ) else (
              lt1 ((0 : Int32) + x_3609) fun (x_3915 : Int32) =>
              lt1 ((x_3915 : Int32) - 48) fun (x_3918 : Int32) =>
              lt1 ((y96_0 : Int32) + 1) fun (x_3921 : Int32) =>
              y_X12_go_215 h0_size h0_sign F_h0_tape 940 1 1 x_3921 y96_1 x_3918 0
             )
            ) else (
             lt1 (x_3609.toInt64) fun (x_3926 : Int64) =>
             lt1 ((0 : Int64) + x_3926) fun (x_3927 : Int64) =>
             lt1 ((x_3927 : Int64) - 96) fun (x_3928 : Int64) =>
             lt1 ((y96_0 : Int32) - y96_1) fun (x_3929 : Int32) =>
             if (3 : Int32) ≤ x_3929 then (
              lt1 ((y96_0 : Int32) + 1) fun (x_3935 : Int32) =>
              y_X12_go_215 h0_size h0_sign F_h0_tape 940 1 1 x_3935 y96_1 0 x_3928
             ) else (
              lt1 ((0 : Int32) + x_3609) fun (x_3940 : Int32) =>
              lt1 ((x_3940 : Int32) - 48) fun (x_3943 : Int32) =>
              lt1 ((y96_0 : Int32) + 1) fun (x_3946 : Int32) =>
              y_X12_go_215 h0_size h0_sign F_h0_tape 940 1 1 x_3946 y96_1 x_3943 x_3928
             )
            )
           )
          )
         )
        )
       )
      )
     )
    )
   )
  ) else (
   (y96_0, y96_1, 0, h0_number, h0_sign, h0_word)
  )
theorem y_X12_go_96_s (h0_size : Int32) (h0_number : Int32) (h0_sign : Int32) (h0_word : Int64) (F_h0_tape : Nat → Int32) (y96_0 : Int32) (y96_1 : Int32) : y_X12_go_96 h0_size h0_number h0_sign h0_word F_h0_tape y96_0 y96_1 = (
  if (y96_0 : Int32) < h0_size then (
   lt1 (F_h0_tape (y96_0 : Int32).toNatClampNeg) fun (x_3609 : Int32) =>
   lt1 (y_X12_isLetter x_3609) fun (r_3611 : Int32) =>
   if (x_3609 : Int32) < 97 then (
    lt1 (y_X12_isDigit x_3609) fun (r_3628 : Int32) =>
    if (x_3609 : Int32) < 48 then (
     if (x_3609 : Int32) = 40 then (
      y_X12_go_174 h0_number h0_word x_3609 y96_0 y96_1
     ) else (
      if (x_3609 : Int32) = 41 then (
       y_X12_go_174 h0_number h0_word x_3609 y96_0 y96_1
      ) else (
       y_X12_go_179 h0_number h0_word x_3609 1 y96_0 y96_1
      )
     )
    ) else (
     if (57 : Int32) < x_3609 then (
      if (x_3609 : Int32) = 59 then (
       y_X12_go_174 h0_number h0_word x_3609 y96_0 y96_1
      ) else (
       if (x_3609 : Int32) = 60 then (
        y_X12_go_174 h0_number h0_word x_3609 y96_0 y96_1
       ) else (
        if (x_3609 : Int32) = 61 then (
         y_X12_go_174 h0_number h0_word x_3609 y96_0 y96_1
        ) else (
         if (x_3609 : Int32) = 62 then (
          y_X12_go_174 h0_number h0_word x_3609 y96_0 y96_1
         ) else (
          y_X12_go_179 h0_number h0_word x_3609 1 y96_0 y96_1
         )
        )
       )
      )
     ) else (
      lt1 (y_X12_isLetter x_3609) fun (r_3676 : Int32) =>
      if (x_3609 : Int32) < 97 then (
       lt1 (y_X12_tapeAt y96_0 h0_size F_h0_tape) fun (r_3692 : Int32) =>
       if h0_size ≤ y96_0 then (
        (0, 0, 0, 0, 0, 0)
       ) else (
        lt1 (y_X12_isLetter x_3609) fun (r_3706 : Int32) =>
        if (x_3609 : Int32) < 97 then (
         lt1 (y_X12_tapeAt y96_0 h0_size F_h0_tape) fun (r_3722 : Int32) =>
         if h0_size ≤ y96_0 then (
          (0, 0, 0, 0, 0, 0)
         ) else (
          lt1 (y_X12_isDigit x_3609) fun (r_3736 : Int32) =>
          if (x_3609 : Int32) < 48 then (
           (0, 0, 0, 0, 0, 0)
          ) else (
           if (57 : Int32) < x_3609 then (
            (0, 0, 0, 0, 0, 0)
           ) else (
            lt1 (y_X12_isLetter x_3609) fun (r_3752 : Int32) =>
            if (x_3609 : Int32) < 97 then (
             lt1 ((y96_0 : Int32) - y96_1) fun (x_3768 : Int32) =>
             if (7 : Int32) ≤ x_3768 then (
              lt1 ((y96_0 : Int32) - y96_1) fun (x_3774 : Int32) =>
              if (3 : Int32) ≤ x_3774 then (
               lt1 ((y96_0 : Int32) + 1) fun (x_3780 : Int32) =>
               y_X12_go_215 h0_size h0_sign F_h0_tape 940 0 1 x_3780 y96_1 0 0
              ) else (
               lt1 ((0 : Int32) + x_3609) fun (x_3785 : Int32) =>
               lt1 ((x_3785 : Int32) - 48) fun (x_3788 : Int32) =>
               lt1 ((y96_0 : Int32) + 1) fun (x_3791 : Int32) =>
               y_X12_go_215 h0_size h0_sign F_h0_tape 940 0 1 x_3791 y96_1 x_3788 0
              )
             ) else (
              lt1 (x_3609.toInt64) fun (x_3796 : Int64) =>
              lt1 ((0 : Int64) + x_3796) fun (x_3797 : Int64) =>
              lt1 ((x_3797 : Int64) - 96) fun (x_3798 : Int64) =>
              lt1 ((y96_0 : Int32) - y96_1) fun (x_3799 : Int32) =>
              if (3 : Int32) ≤ x_3799 then (
               lt1 ((y96_0 : Int32) + 1) fun (x_3805 : Int32) =>
               y_X12_go_215 h0_size h0_sign F_h0_tape 940 0 1 x_3805 y96_1 0 x_3798
              ) else (
               lt1 ((0 : Int32) + x_3609) fun (x_3810 : Int32) =>
               lt1 ((x_3810 : Int32) - 48) fun (x_3813 : Int32) =>
               lt1 ((y96_0 : Int32) + 1) fun (x_3816 : Int32) =>
               y_X12_go_215 h0_size h0_sign F_h0_tape 940 0 1 x_3816 y96_1 x_3813 x_3798
              )
             )
            ) else (
             if (122 : Int32) < x_3609 then (
              (0, 0, 0, 0, 0, 0)
             ) else (
              (0, 0, 0, 0, 0, 0)
             )
            )
           )
          )
         )
        ) else (
         if (122 : Int32) < x_3609 then (
          (0, 0, 0, 0, 0, 0)
         ) else (
          (0, 0, 0, 0, 0, 0)
         )
        )
       )
      ) else (
       if (122 : Int32) < x_3609 then (
        (0, 0, 0, 0, 0, 0)
       ) else (
        (0, 0, 0, 0, 0, 0)
       )
      )
     )
    )
   ) else (
    if (122 : Int32) < x_3609 then (
     lt1 (y_X12_isDigit x_3609) fun (r_3820 : Int32) =>
     if (x_3609 : Int32) < 48 then (
      (0, 0, 0, 0, 0, 0)
     ) else (
      if (57 : Int32) < x_3609 then (
       y_X12_go_179 h0_number h0_word x_3609 1 y96_0 y96_1
      ) else (
       (0, 0, 0, 0, 0, 0)
      )
     )
    ) else (
     lt1 (y_X12_isLetter x_3609) fun (r_3836 : Int32) =>
     if (x_3609 : Int32) < 97 then (
      (0, 0, 0, 0, 0, 0)
     ) else (
      if (122 : Int32) < x_3609 then (
       (0, 0, 0, 0, 0, 0)
      ) else (
       lt1 (y_X12_tapeAt y96_0 h0_size F_h0_tape) fun (r_3852 : Int32) =>
       if h0_size ≤ y96_0 then (
        (0, 0, 0, 0, 0, 0)
       ) else (
        lt1 (y_X12_isLetter x_3609) fun (r_3866 : Int32) =>
        if (x_3609 : Int32) < 97 then (
         (0, 0, 0, 0, 0, 0)
        ) else (
         if (122 : Int32) < x_3609 then (
          (0, 0, 0, 0, 0, 0)
         ) else (
          lt1 (y_X12_isLetter x_3609) fun (r_3882 : Int32) =>
          if (x_3609 : Int32) < 97 then (
           (0, 0, 0, 0, 0, 0)
          ) else (
           if (122 : Int32) < x_3609 then (
            (0, 0, 0, 0, 0, 0)
           ) else (
            lt1 ((y96_0 : Int32) - y96_1) fun (x_3898 : Int32) =>
            if (7 : Int32) ≤ x_3898 then (
             lt1 ((y96_0 : Int32) - y96_1) fun (x_3904 : Int32) =>
             if (3 : Int32) ≤ x_3904 then (
              lt1 ((y96_0 : Int32) + 1) fun (x_3910 : Int32) =>
              y_X12_go_215 h0_size h0_sign F_h0_tape 940 1 1 x_3910 y96_1 0 0
             ) else (
              lt1 ((0 : Int32) + x_3609) fun (x_3915 : Int32) =>
              lt1 ((x_3915 : Int32) - 48) fun (x_3918 : Int32) =>
              lt1 ((y96_0 : Int32) + 1) fun (x_3921 : Int32) =>
              y_X12_go_215 h0_size h0_sign F_h0_tape 940 1 1 x_3921 y96_1 x_3918 0
             )
            ) else (
             lt1 (x_3609.toInt64) fun (x_3926 : Int64) =>
             lt1 ((0 : Int64) + x_3926) fun (x_3927 : Int64) =>
             lt1 ((x_3927 : Int64) - 96) fun (x_3928 : Int64) =>
             lt1 ((y96_0 : Int32) - y96_1) fun (x_3929 : Int32) =>
             if (3 : Int32) ≤ x_3929 then (
              lt1 ((y96_0 : Int32) + 1) fun (x_3935 : Int32) =>
              y_X12_go_215 h0_size h0_sign F_h0_tape 940 1 1 x_3935 y96_1 0 x_3928
             ) else (
              lt1 ((0 : Int32) + x_3609) fun (x_3940 : Int32) =>
              lt1 ((x_3940 : Int32) - 48) fun (x_3943 : Int32) =>
              lt1 ((y96_0 : Int32) + 1) fun (x_3946 : Int32) =>
              y_X12_go_215 h0_size h0_sign F_h0_tape 940 1 1 x_3946 y96_1 x_3943 x_3928
             )
            )
           )
          )
         )
        )
       )
      )
     )
    )
   )
  ) else (
   (y96_0, y96_1, 0, h0_number, h0_sign, h0_word)
  )) := rfl
def y_X12_go_52 (h0_size : Int32) (h0_limit : Int32) (h0_number : Int32) (h0_sign : Int32) (h0_word : Int64) (F_h0_tape : Nat → Int32) (y52_0 : Int32) : Int32 × Int32 × Int32 × Int32 × Int32 × Int64 :=
  if (h0_size : Int32) ≤ h0_limit then (
   y_X12_go_96 h0_size h0_number h0_sign h0_word F_h0_tape y52_0 y52_0
  ) else (
   if (y52_0 : Int32) < h0_limit then (
    y_X12_go_96 h0_size h0_number h0_sign h0_word F_h0_tape y52_0 y52_0
   ) else (
    (y52_0, h0_limit, 1, h0_number, h0_sign, h0_word)
   )
  )
theorem y_X12_go_52_s (h0_size : Int32) (h0_limit : Int32) (h0_number : Int32) (h0_sign : Int32) (h0_word : Int64) (F_h0_tape : Nat → Int32) (y52_0 : Int32) : y_X12_go_52 h0_size h0_limit h0_number h0_sign h0_word F_h0_tape y52_0 = (
  if (h0_size : Int32) ≤ h0_limit then (
   y_X12_go_96 h0_size h0_number h0_sign h0_word F_h0_tape y52_0 y52_0
  ) else (
   if (y52_0 : Int32) < h0_limit then (
    y_X12_go_96 h0_size h0_number h0_sign h0_word F_h0_tape y52_0 y52_0
   ) else (
    (y52_0, h0_limit, 1, h0_number, h0_sign, h0_word)
   )
  )) := rfl
def y_X12_go_0 (h0_size : Int32) (h0_limit : Int32) (h0_number : Int32) (h0_sign : Int32) (h0_word : Int64) (F_h0_tape : Nat → Int32) : Nat → Int32 → (Int32 × Int32 × Int32 × Int32 × Int32 × Int64)
 | 0, _ => (0, 0, 0, 0, 0, 0)
 | n0 + 1, y0_0 =>
  if (h0_size : Int32) ≤ y0_0 then (
   y_X12_go_52 h0_size h0_limit h0_number h0_sign h0_word F_h0_tape y0_0
  ) else (
   lt1 (F_h0_tape (y0_0 : Int32).toNatClampNeg) fun (x_3990 : Int32) =>
   if (x_3990 : Int32) = 32 then (
    lt1 ((y0_0 : Int32) + 1) fun (x_3997 : Int32) =>
    y_X12_go_0 h0_size h0_limit h0_number h0_sign h0_word F_h0_tape n0 x_3997
   ) else (
    if (x_3990 : Int32) = 10 then (
     lt1 ((y0_0 : Int32) + 1) fun (x_4005 : Int32) =>
     y_X12_go_0 h0_size h0_limit h0_number h0_sign h0_word F_h0_tape n0 x_4005
    ) else (
     y_X12_go_52 h0_size h0_limit h0_number h0_sign h0_word F_h0_tape y0_0
    )
   )
  )
theorem y_X12_go_0_s (h0_size : Int32) (h0_limit : Int32) (h0_number : Int32) (h0_sign : Int32) (h0_word : Int64) (F_h0_tape : Nat → Int32) (n0 : Nat) (y0_0 : Int32) : y_X12_go_0 h0_size h0_limit h0_number h0_sign h0_word F_h0_tape (n0 + 1) y0_0 = (
  if (h0_size : Int32) ≤ y0_0 then (
   y_X12_go_52 h0_size h0_limit h0_number h0_sign h0_word F_h0_tape y0_0
  ) else (
   lt1 (F_h0_tape (y0_0 : Int32).toNatClampNeg) fun (x_3990 : Int32) =>
   if (x_3990 : Int32) = 32 then (
    lt1 ((y0_0 : Int32) + 1) fun (x_3997 : Int32) =>
    y_X12_go_0 h0_size h0_limit h0_number h0_sign h0_word F_h0_tape n0 x_3997
   ) else (
    if (x_3990 : Int32) = 10 then (
     lt1 ((y0_0 : Int32) + 1) fun (x_4005 : Int32) =>
     y_X12_go_0 h0_size h0_limit h0_number h0_sign h0_word F_h0_tape n0 x_4005
    ) else (
     y_X12_go_52 h0_size h0_limit h0_number h0_sign h0_word F_h0_tape y0_0
    )
   )
  )) := rfl
def y_X12_go (h0_size : Int32) (h0_limit : Int32) (h0_to : Int32) (h0_number : Int32) (h0_sign : Int32) (h0_word : Int64) (F_h0_tape : Nat → Int32)  : Int32 × Int32 × Int32 × Int32 × Int32 × Int64 :=
  if (h0_size : Int32) ≤ h0_to then (
   y_X12_go_52 h0_size h0_limit h0_number h0_sign h0_word F_h0_tape h0_to
  ) else (
   lt1 (F_h0_tape (h0_to : Int32).toNatClampNeg) fun (x_4013 : Int32) =>
   if (x_4013 : Int32) = 32 then (
    lt1 ((h0_to : Int32) + 1) fun (x_4020 : Int32) =>
    y_X12_go_0 h0_size h0_limit h0_number h0_sign h0_word F_h0_tape 940 x_4020
   ) else (
    if (x_4013 : Int32) = 10 then (
     lt1 ((h0_to : Int32) + 1) fun (x_4028 : Int32) =>
     y_X12_go_0 h0_size h0_limit h0_number h0_sign h0_word F_h0_tape 940 x_4028
    ) else (
     y_X12_go_52 h0_size h0_limit h0_number h0_sign h0_word F_h0_tape h0_to
    )
   )
  )
theorem y_X12_go_s (h0_size : Int32) (h0_limit : Int32) (h0_to : Int32) (h0_number : Int32) (h0_sign : Int32) (h0_word : Int64) (F_h0_tape : Nat → Int32)  : y_X12_go h0_size h0_limit h0_to h0_number h0_sign h0_word F_h0_tape = (
  if (h0_size : Int32) ≤ h0_to then (
   y_X12_go_52 h0_size h0_limit h0_number h0_sign h0_word F_h0_tape h0_to
  ) else (
   lt1 (F_h0_tape (h0_to : Int32).toNatClampNeg) fun (x_4013 : Int32) =>
   if (x_4013 : Int32) = 32 then (
    lt1 ((h0_to : Int32) + 1) fun (x_4020 : Int32) =>
    y_X12_go_0 h0_size h0_limit h0_number h0_sign h0_word F_h0_tape 940 x_4020
   ) else (
    if (x_4013 : Int32) = 10 then (
     lt1 ((h0_to : Int32) + 1) fun (x_4028 : Int32) =>
     y_X12_go_0 h0_size h0_limit h0_number h0_sign h0_word F_h0_tape 940 x_4028
    ) else (
     y_X12_go_52 h0_size h0_limit h0_number h0_sign h0_word F_h0_tape h0_to
    )
   )
  )) := rfl
def y_X12_begin (a1 : Int32) (h0_taped : Int32) (h0_number : Int32) (h0_sign : Int32) (h0_word : Int64) (F_h0_tape : Nat → Int32)  : Int32 × Int32 × Int32 × Int32 × Int32 × Int64 :=
  lt1 (y_X12_take h0_taped) fun (r_21 : Int32) =>
  lt6 (y_X12_go h0_taped a1 0 h0_number h0_sign h0_word F_h0_tape) fun (u_29 : Int32) (u_30 : Int32) (u_31 : Int32) (u_32 : Int32) (u_33 : Int32) (u_34 : Int64) =>
  (u_29, u_30, u_31, u_32, u_33, u_34)
theorem y_X12_begin_s (a1 : Int32) (h0_taped : Int32) (h0_number : Int32) (h0_sign : Int32) (h0_word : Int64) (F_h0_tape : Nat → Int32)  : y_X12_begin a1 h0_taped h0_number h0_sign h0_word F_h0_tape = (
  lt1 (y_X12_take h0_taped) fun (r_21 : Int32) =>
  lt6 (y_X12_go h0_taped a1 0 h0_number h0_sign h0_word F_h0_tape) fun (u_29 : Int32) (u_30 : Int32) (u_31 : Int32) (u_32 : Int32) (u_33 : Int32) (u_34 : Int64) =>
  (u_29, u_30, u_31, u_32, u_33, u_34)) := rfl
def y_X12_startRead_24 (F_h0_onces : Nat → Int32) : Nat → Int32 → (Nat → Int32) → ((Nat → Int32) × (Nat → Int32))
 | 0, _, _ => ((fun _ => 0), (fun _ => 0))
 | n24 + 1, y24_0, f24_1 =>
  if (89 : Int32) ≤ y24_0 then (
   lt1 (upd F_h0_onces (0 : Int32).toNatClampNeg (vp_nar .boolean 0)) fun (g_338 : Nat → Int32) =>
   lt1 (upd g_338 (1 : Int32).toNatClampNeg (vp_nar .boolean 0)) fun (g_339 : Nat → Int32) =>
   lt1 (upd f24_1 (3 : Int32).toNatClampNeg (3 : Int32)) fun (g_340 : Nat → Int32) =>
   lt1 (upd g_340 (4 : Int32).toNatClampNeg (1 : Int32)) fun (g_347 : Nat → Int32) =>
   (g_347, g_339)
  ) else (
   lt1 (upd f24_1 (y24_0 : Int32).toNatClampNeg ((-1) : Int32)) fun (g_357 : Nat → Int32) =>
   lt1 (y24_0 + 1) fun (x_363 : Int32) =>
   y_X12_startRead_24 F_h0_onces n24 x_363 g_357
  )
theorem y_X12_startRead_24_s (F_h0_onces : Nat → Int32) (n24 : Nat) (y24_0 : Int32) (f24_1 : Nat → Int32) : y_X12_startRead_24 F_h0_onces (n24 + 1) y24_0 f24_1 = (
  if (89 : Int32) ≤ y24_0 then (
   lt1 (upd F_h0_onces (0 : Int32).toNatClampNeg (vp_nar .boolean 0)) fun (g_338 : Nat → Int32) =>
   lt1 (upd g_338 (1 : Int32).toNatClampNeg (vp_nar .boolean 0)) fun (g_339 : Nat → Int32) =>
   lt1 (upd f24_1 (3 : Int32).toNatClampNeg (3 : Int32)) fun (g_340 : Nat → Int32) =>
   lt1 (upd g_340 (4 : Int32).toNatClampNeg (1 : Int32)) fun (g_347 : Nat → Int32) =>
   (g_347, g_339)
  ) else (
   lt1 (upd f24_1 (y24_0 : Int32).toNatClampNeg ((-1) : Int32)) fun (g_357 : Nat → Int32) =>
   lt1 (y24_0 + 1) fun (x_363 : Int32) =>
   y_X12_startRead_24 F_h0_onces n24 x_363 g_357
  )) := rfl
def y_X12_startRead_2 (F_h0_onces : Nat → Int32) : Nat → Int32 → (Nat → Int32) → ((Nat → Int32) × (Nat → Int32))
 | 0, _, _ => ((fun _ => 0), (fun _ => 0))
 | n2 + 1, y2_0, f2_1 =>
  if (89 : Int32) ≤ y2_0 then (
   y_X12_startRead_24 F_h0_onces 41 49 f2_1
  ) else (
   lt1 (upd f2_1 (y2_0 : Int32).toNatClampNeg (0 : Int32)) fun (g_386 : Nat → Int32) =>
   lt1 (y2_0 + 1) fun (x_392 : Int32) =>
   y_X12_startRead_2 F_h0_onces n2 x_392 g_386
  )
theorem y_X12_startRead_2_s (F_h0_onces : Nat → Int32) (n2 : Nat) (y2_0 : Int32) (f2_1 : Nat → Int32) : y_X12_startRead_2 F_h0_onces (n2 + 1) y2_0 f2_1 = (
  if (89 : Int32) ≤ y2_0 then (
   y_X12_startRead_24 F_h0_onces 41 49 f2_1
  ) else (
   lt1 (upd f2_1 (y2_0 : Int32).toNatClampNeg (0 : Int32)) fun (g_386 : Nat → Int32) =>
   lt1 (y2_0 + 1) fun (x_392 : Int32) =>
   y_X12_startRead_2 F_h0_onces n2 x_392 g_386
  )) := rfl
def y_X12_startRead (F_h0_read : Nat → Int32) (F_h0_onces : Nat → Int32)  : (Nat → Int32) × (Nat → Int32) :=
  y_X12_startRead_2 F_h0_onces 90 0 F_h0_read
theorem y_X12_startRead_s (F_h0_read : Nat → Int32) (F_h0_onces : Nat → Int32)  : y_X12_startRead F_h0_read F_h0_onces = (
  y_X12_startRead_2 F_h0_onces 90 0 F_h0_read) := rfl
def y_X12_spelt_0_99   : Int64 :=
  5741298
theorem y_X12_spelt_0_99_s   : y_X12_spelt_0_99 = (
  5741298) := rfl
def y_X12_spelt_0_78   : Int64 :=
  y_X12_spelt_0_99
theorem y_X12_spelt_0_78_s   : y_X12_spelt_0_78 = (
  y_X12_spelt_0_99) := rfl
def y_X12_spelt_0_57   : Int64 :=
  y_X12_spelt_0_78
theorem y_X12_spelt_0_57_s   : y_X12_spelt_0_57 = (
  y_X12_spelt_0_78) := rfl
def y_X12_spelt_0_38   : Int64 :=
  y_X12_spelt_0_57
theorem y_X12_spelt_0_38_s   : y_X12_spelt_0_38 = (
  y_X12_spelt_0_57) := rfl
def y_X12_spelt_0   : Int64 :=
  y_X12_spelt_0_38
theorem y_X12_spelt_0_s   : y_X12_spelt_0 = (
  y_X12_spelt_0_38) := rfl
def y_X12_spelt_1_99   : Int64 :=
  275320840
theorem y_X12_spelt_1_99_s   : y_X12_spelt_1_99 = (
  275320840) := rfl
def y_X12_spelt_1_78   : Int64 :=
  y_X12_spelt_1_99
theorem y_X12_spelt_1_78_s   : y_X12_spelt_1_78 = (
  y_X12_spelt_1_99) := rfl
def y_X12_spelt_1_57   : Int64 :=
  y_X12_spelt_1_78
theorem y_X12_spelt_1_57_s   : y_X12_spelt_1_57 = (
  y_X12_spelt_1_78) := rfl
def y_X12_spelt_1_38   : Int64 :=
  y_X12_spelt_1_57
theorem y_X12_spelt_1_38_s   : y_X12_spelt_1_38 = (
  y_X12_spelt_1_57) := rfl
def y_X12_spelt_1   : Int64 :=
  y_X12_spelt_1_38
theorem y_X12_spelt_1_s   : y_X12_spelt_1 = (
  y_X12_spelt_1_38) := rfl
def y_X12_spelt_2_99   : Int64 :=
  3436200
theorem y_X12_spelt_2_99_s   : y_X12_spelt_2_99 = (
  3436200) := rfl
def y_X12_spelt_2_78   : Int64 :=
  y_X12_spelt_2_99
theorem y_X12_spelt_2_78_s   : y_X12_spelt_2_78 = (
  y_X12_spelt_2_99) := rfl
def y_X12_spelt_2_57   : Int64 :=
  y_X12_spelt_2_78
theorem y_X12_spelt_2_57_s   : y_X12_spelt_2_57 = (
  y_X12_spelt_2_78) := rfl
def y_X12_spelt_2_38   : Int64 :=
  y_X12_spelt_2_57
theorem y_X12_spelt_2_38_s   : y_X12_spelt_2_38 = (
  y_X12_spelt_2_57) := rfl
def y_X12_spelt_2   : Int64 :=
  y_X12_spelt_2_38
theorem y_X12_spelt_2_s   : y_X12_spelt_2 = (
  y_X12_spelt_2_38) := rfl
def y_X12_spelt_3_99   : Int64 :=
  60296
theorem y_X12_spelt_3_99_s   : y_X12_spelt_3_99 = (
  60296) := rfl
def y_X12_spelt_3_78   : Int64 :=
  y_X12_spelt_3_99
theorem y_X12_spelt_3_78_s   : y_X12_spelt_3_78 = (
  y_X12_spelt_3_99) := rfl
def y_X12_spelt_3_57   : Int64 :=
  y_X12_spelt_3_78
theorem y_X12_spelt_3_57_s   : y_X12_spelt_3_57 = (
  y_X12_spelt_3_78) := rfl
def y_X12_spelt_3_38   : Int64 :=
  y_X12_spelt_3_57
theorem y_X12_spelt_3_38_s   : y_X12_spelt_3_38 = (
  y_X12_spelt_3_57) := rfl
def y_X12_spelt_3   : Int64 :=
  y_X12_spelt_3_38
theorem y_X12_spelt_3_s   : y_X12_spelt_3 = (
  y_X12_spelt_3_38) := rfl
def y_X12_spelt_4_99   : Int64 :=
  11052508
theorem y_X12_spelt_4_99_s   : y_X12_spelt_4_99 = (
  11052508) := rfl
def y_X12_spelt_4_78   : Int64 :=
  y_X12_spelt_4_99
theorem y_X12_spelt_4_78_s   : y_X12_spelt_4_78 = (
  y_X12_spelt_4_99) := rfl
def y_X12_spelt_4_57   : Int64 :=
  y_X12_spelt_4_78
theorem y_X12_spelt_4_57_s   : y_X12_spelt_4_57 = (
  y_X12_spelt_4_78) := rfl
def y_X12_spelt_4_38   : Int64 :=
  y_X12_spelt_4_57
theorem y_X12_spelt_4_38_s   : y_X12_spelt_4_38 = (
  y_X12_spelt_4_57) := rfl
def y_X12_spelt_4   : Int64 :=
  y_X12_spelt_4_38
theorem y_X12_spelt_4_s   : y_X12_spelt_4 = (
  y_X12_spelt_4_38) := rfl
def y_X12_spelt_5_99   : Int64 :=
  11318
theorem y_X12_spelt_5_99_s   : y_X12_spelt_5_99 = (
  11318) := rfl
def y_X12_spelt_5_78   : Int64 :=
  y_X12_spelt_5_99
theorem y_X12_spelt_5_78_s   : y_X12_spelt_5_78 = (
  y_X12_spelt_5_99) := rfl
def y_X12_spelt_5_57   : Int64 :=
  y_X12_spelt_5_78
theorem y_X12_spelt_5_57_s   : y_X12_spelt_5_57 = (
  y_X12_spelt_5_78) := rfl
def y_X12_spelt_5_38   : Int64 :=
  y_X12_spelt_5_57
theorem y_X12_spelt_5_38_s   : y_X12_spelt_5_38 = (
  y_X12_spelt_5_57) := rfl
def y_X12_spelt_5   : Int64 :=
  y_X12_spelt_5_38
theorem y_X12_spelt_5_s   : y_X12_spelt_5 = (
  y_X12_spelt_5_38) := rfl
def y_X12_spelt_6_99   : Int64 :=
  82775
theorem y_X12_spelt_6_99_s   : y_X12_spelt_6_99 = (
  82775) := rfl
def y_X12_spelt_6_78   : Int64 :=
  y_X12_spelt_6_99
theorem y_X12_spelt_6_78_s   : y_X12_spelt_6_78 = (
  y_X12_spelt_6_99) := rfl
def y_X12_spelt_6_57   : Int64 :=
  y_X12_spelt_6_78
theorem y_X12_spelt_6_57_s   : y_X12_spelt_6_57 = (
  y_X12_spelt_6_78) := rfl
def y_X12_spelt_6_38   : Int64 :=
  y_X12_spelt_6_57
theorem y_X12_spelt_6_38_s   : y_X12_spelt_6_38 = (
  y_X12_spelt_6_57) := rfl
def y_X12_spelt_6   : Int64 :=
  y_X12_spelt_6_38
theorem y_X12_spelt_6_s   : y_X12_spelt_6 = (
  y_X12_spelt_6_38) := rfl
def y_X12_spelt_7_99   : Int64 :=
  381097
theorem y_X12_spelt_7_99_s   : y_X12_spelt_7_99 = (
  381097) := rfl
def y_X12_spelt_7_78   : Int64 :=
  y_X12_spelt_7_99
theorem y_X12_spelt_7_78_s   : y_X12_spelt_7_78 = (
  y_X12_spelt_7_99) := rfl
def y_X12_spelt_7_57   : Int64 :=
  y_X12_spelt_7_78
theorem y_X12_spelt_7_57_s   : y_X12_spelt_7_57 = (
  y_X12_spelt_7_78) := rfl
def y_X12_spelt_7_38   : Int64 :=
  y_X12_spelt_7_57
theorem y_X12_spelt_7_38_s   : y_X12_spelt_7_38 = (
  y_X12_spelt_7_57) := rfl
def y_X12_spelt_7   : Int64 :=
  y_X12_spelt_7_38
theorem y_X12_spelt_7_s   : y_X12_spelt_7 = (
  y_X12_spelt_7_38) := rfl
def y_X12_spelt_8_99   : Int64 :=
  9757090
theorem y_X12_spelt_8_99_s   : y_X12_spelt_8_99 = (
  9757090) := rfl
def y_X12_spelt_8_78   : Int64 :=
  y_X12_spelt_8_99
theorem y_X12_spelt_8_78_s   : y_X12_spelt_8_78 = (
  y_X12_spelt_8_99) := rfl
def y_X12_spelt_8_57   : Int64 :=
  y_X12_spelt_8_78
theorem y_X12_spelt_8_57_s   : y_X12_spelt_8_57 = (
  y_X12_spelt_8_78) := rfl
def y_X12_spelt_8_38   : Int64 :=
  y_X12_spelt_8_57
theorem y_X12_spelt_8_38_s   : y_X12_spelt_8_38 = (
  y_X12_spelt_8_57) := rfl
def y_X12_spelt_8   : Int64 :=
  y_X12_spelt_8_38
theorem y_X12_spelt_8_s   : y_X12_spelt_8 = (
  y_X12_spelt_8_38) := rfl
def y_X12_spelt_9_99   : Int64 :=
  4555648
theorem y_X12_spelt_9_99_s   : y_X12_spelt_9_99 = (
  4555648) := rfl
def y_X12_spelt_9_78   : Int64 :=
  y_X12_spelt_9_99
theorem y_X12_spelt_9_78_s   : y_X12_spelt_9_78 = (
  y_X12_spelt_9_99) := rfl
def y_X12_spelt_9_57   : Int64 :=
  y_X12_spelt_9_78
theorem y_X12_spelt_9_57_s   : y_X12_spelt_9_57 = (
  y_X12_spelt_9_78) := rfl
def y_X12_spelt_9_38   : Int64 :=
  y_X12_spelt_9_57
theorem y_X12_spelt_9_38_s   : y_X12_spelt_9_38 = (
  y_X12_spelt_9_57) := rfl
def y_X12_spelt_9   : Int64 :=
  y_X12_spelt_9_38
theorem y_X12_spelt_9_s   : y_X12_spelt_9 = (
  y_X12_spelt_9_38) := rfl
def y_X12_spelt_10_99   : Int64 :=
  2491444
theorem y_X12_spelt_10_99_s   : y_X12_spelt_10_99 = (
  2491444) := rfl
def y_X12_spelt_10_78   : Int64 :=
  y_X12_spelt_10_99
theorem y_X12_spelt_10_78_s   : y_X12_spelt_10_78 = (
  y_X12_spelt_10_99) := rfl
def y_X12_spelt_10_57   : Int64 :=
  y_X12_spelt_10_78
theorem y_X12_spelt_10_57_s   : y_X12_spelt_10_57 = (
  y_X12_spelt_10_78) := rfl
def y_X12_spelt_10_38   : Int64 :=
  y_X12_spelt_10_57
theorem y_X12_spelt_10_38_s   : y_X12_spelt_10_38 = (
  y_X12_spelt_10_57) := rfl
def y_X12_spelt_10   : Int64 :=
  y_X12_spelt_10_38
theorem y_X12_spelt_10_s   : y_X12_spelt_10 = (
  y_X12_spelt_10_38) := rfl
def y_X12_spelt_11_99   : Int64 :=
  31389431
theorem y_X12_spelt_11_99_s   : y_X12_spelt_11_99 = (
  31389431) := rfl
def y_X12_spelt_11_78   : Int64 :=
  y_X12_spelt_11_99
theorem y_X12_spelt_11_78_s   : y_X12_spelt_11_78 = (
  y_X12_spelt_11_99) := rfl
def y_X12_spelt_11_57   : Int64 :=
  y_X12_spelt_11_78
theorem y_X12_spelt_11_57_s   : y_X12_spelt_11_57 = (
  y_X12_spelt_11_78) := rfl
def y_X12_spelt_11_38   : Int64 :=
  y_X12_spelt_11_57
theorem y_X12_spelt_11_38_s   : y_X12_spelt_11_38 = (
  y_X12_spelt_11_57) := rfl
def y_X12_spelt_11   : Int64 :=
  y_X12_spelt_11_38
theorem y_X12_spelt_11_s   : y_X12_spelt_11 = (
  y_X12_spelt_11_38) := rfl
def y_X12_spelt_12_99   : Int64 :=
  15091
theorem y_X12_spelt_12_99_s   : y_X12_spelt_12_99 = (
  15091) := rfl
def y_X12_spelt_12_78   : Int64 :=
  y_X12_spelt_12_99
theorem y_X12_spelt_12_78_s   : y_X12_spelt_12_78 = (
  y_X12_spelt_12_99) := rfl
def y_X12_spelt_12_57   : Int64 :=
  y_X12_spelt_12_78
theorem y_X12_spelt_12_57_s   : y_X12_spelt_12_57 = (
  y_X12_spelt_12_78) := rfl
def y_X12_spelt_12_38   : Int64 :=
  y_X12_spelt_12_57
theorem y_X12_spelt_12_38_s   : y_X12_spelt_12_38 = (
  y_X12_spelt_12_57) := rfl
def y_X12_spelt_12   : Int64 :=
  y_X12_spelt_12_38
theorem y_X12_spelt_12_s   : y_X12_spelt_12 = (
  y_X12_spelt_12_38) := rfl
def y_X12_spelt_13_99   : Int64 :=
  23170575
theorem y_X12_spelt_13_99_s   : y_X12_spelt_13_99 = (
  23170575) := rfl
def y_X12_spelt_13_78   : Int64 :=
  y_X12_spelt_13_99
theorem y_X12_spelt_13_78_s   : y_X12_spelt_13_78 = (
  y_X12_spelt_13_99) := rfl
def y_X12_spelt_13_57   : Int64 :=
  y_X12_spelt_13_78
theorem y_X12_spelt_13_57_s   : y_X12_spelt_13_57 = (
  y_X12_spelt_13_78) := rfl
def y_X12_spelt_13_38   : Int64 :=
  y_X12_spelt_13_57
theorem y_X12_spelt_13_38_s   : y_X12_spelt_13_38 = (
  y_X12_spelt_13_57) := rfl
def y_X12_spelt_13   : Int64 :=
  y_X12_spelt_13_38
theorem y_X12_spelt_13_s   : y_X12_spelt_13 = (
  y_X12_spelt_13_38) := rfl
def y_X12_spelt_14_99   : Int64 :=
  2968
theorem y_X12_spelt_14_99_s   : y_X12_spelt_14_99 = (
  2968) := rfl
def y_X12_spelt_14_78   : Int64 :=
  y_X12_spelt_14_99
theorem y_X12_spelt_14_78_s   : y_X12_spelt_14_78 = (
  y_X12_spelt_14_99) := rfl
def y_X12_spelt_14_57   : Int64 :=
  y_X12_spelt_14_78
theorem y_X12_spelt_14_57_s   : y_X12_spelt_14_57 = (
  y_X12_spelt_14_78) := rfl
def y_X12_spelt_14_38   : Int64 :=
  y_X12_spelt_14_57
theorem y_X12_spelt_14_38_s   : y_X12_spelt_14_38 = (
  y_X12_spelt_14_57) := rfl
def y_X12_spelt_14   : Int64 :=
  y_X12_spelt_14_38
theorem y_X12_spelt_14_s   : y_X12_spelt_14 = (
  y_X12_spelt_14_38) := rfl
def y_X12_spelt_15_99   : Int64 :=
  423
theorem y_X12_spelt_15_99_s   : y_X12_spelt_15_99 = (
  423) := rfl
def y_X12_spelt_15_78   : Int64 :=
  y_X12_spelt_15_99
theorem y_X12_spelt_15_78_s   : y_X12_spelt_15_78 = (
  y_X12_spelt_15_99) := rfl
def y_X12_spelt_15_57   : Int64 :=
  y_X12_spelt_15_78
theorem y_X12_spelt_15_57_s   : y_X12_spelt_15_57 = (
  y_X12_spelt_15_78) := rfl
def y_X12_spelt_15_38   : Int64 :=
  y_X12_spelt_15_57
theorem y_X12_spelt_15_38_s   : y_X12_spelt_15_38 = (
  y_X12_spelt_15_57) := rfl
def y_X12_spelt_15   : Int64 :=
  y_X12_spelt_15_38
theorem y_X12_spelt_15_s   : y_X12_spelt_15 = (
  y_X12_spelt_15_38) := rfl
def y_X12_spelt_16_99   : Int64 :=
  1111
theorem y_X12_spelt_16_99_s   : y_X12_spelt_16_99 = (
  1111) := rfl
def y_X12_spelt_16_78   : Int64 :=
  y_X12_spelt_16_99
theorem y_X12_spelt_16_78_s   : y_X12_spelt_16_78 = (
  y_X12_spelt_16_99) := rfl
def y_X12_spelt_16_57   : Int64 :=
  y_X12_spelt_16_78
theorem y_X12_spelt_16_57_s   : y_X12_spelt_16_57 = (
  y_X12_spelt_16_78) := rfl
def y_X12_spelt_16_38   : Int64 :=
  y_X12_spelt_16_57
theorem y_X12_spelt_16_38_s   : y_X12_spelt_16_38 = (
  y_X12_spelt_16_57) := rfl
def y_X12_spelt_16   : Int64 :=
  y_X12_spelt_16_38
theorem y_X12_spelt_16_s   : y_X12_spelt_16 = (
  y_X12_spelt_16_38) := rfl
def y_X12_spelt_17_99   : Int64 :=
  10631
theorem y_X12_spelt_17_99_s   : y_X12_spelt_17_99 = (
  10631) := rfl
def y_X12_spelt_17_78   : Int64 :=
  y_X12_spelt_17_99
theorem y_X12_spelt_17_78_s   : y_X12_spelt_17_78 = (
  y_X12_spelt_17_99) := rfl
def y_X12_spelt_17_57   : Int64 :=
  y_X12_spelt_17_78
theorem y_X12_spelt_17_57_s   : y_X12_spelt_17_57 = (
  y_X12_spelt_17_78) := rfl
def y_X12_spelt_17_38   : Int64 :=
  y_X12_spelt_17_57
theorem y_X12_spelt_17_38_s   : y_X12_spelt_17_38 = (
  y_X12_spelt_17_57) := rfl
def y_X12_spelt_17   : Int64 :=
  y_X12_spelt_17_38
theorem y_X12_spelt_17_s   : y_X12_spelt_17 = (
  y_X12_spelt_17_38) := rfl
def y_X12_spelt_18_99   : Int64 :=
  7501158880
theorem y_X12_spelt_18_99_s   : y_X12_spelt_18_99 = (
  7501158880) := rfl
def y_X12_spelt_18_78   : Int64 :=
  y_X12_spelt_18_99
theorem y_X12_spelt_18_78_s   : y_X12_spelt_18_78 = (
  y_X12_spelt_18_99) := rfl
def y_X12_spelt_18_57   : Int64 :=
  y_X12_spelt_18_78
theorem y_X12_spelt_18_57_s   : y_X12_spelt_18_57 = (
  y_X12_spelt_18_78) := rfl
def y_X12_spelt_18_38   : Int64 :=
  y_X12_spelt_18_57
theorem y_X12_spelt_18_38_s   : y_X12_spelt_18_38 = (
  y_X12_spelt_18_57) := rfl
def y_X12_spelt_18   : Int64 :=
  y_X12_spelt_18_38
theorem y_X12_spelt_18_s   : y_X12_spelt_18 = (
  y_X12_spelt_18_38) := rfl
def y_X12_spelt_19_99   : Int64 :=
  3321060487
theorem y_X12_spelt_19_99_s   : y_X12_spelt_19_99 = (
  3321060487) := rfl
def y_X12_spelt_19_78   : Int64 :=
  y_X12_spelt_19_99
theorem y_X12_spelt_19_78_s   : y_X12_spelt_19_78 = (
  y_X12_spelt_19_99) := rfl
def y_X12_spelt_19_57   : Int64 :=
  y_X12_spelt_19_78
theorem y_X12_spelt_19_57_s   : y_X12_spelt_19_57 = (
  y_X12_spelt_19_78) := rfl
def y_X12_spelt_19_38   : Int64 :=
  y_X12_spelt_19_57
theorem y_X12_spelt_19_38_s   : y_X12_spelt_19_38 = (
  y_X12_spelt_19_57) := rfl
def y_X12_spelt_19   : Int64 :=
  y_X12_spelt_19_38
theorem y_X12_spelt_19_s   : y_X12_spelt_19 = (
  y_X12_spelt_19_38) := rfl
def y_X12_spelt_20_99   : Int64 :=
  60343114
theorem y_X12_spelt_20_99_s   : y_X12_spelt_20_99 = (
  60343114) := rfl
def y_X12_spelt_20_78   : Int64 :=
  y_X12_spelt_20_99
theorem y_X12_spelt_20_78_s   : y_X12_spelt_20_78 = (
  y_X12_spelt_20_99) := rfl
def y_X12_spelt_20_57   : Int64 :=
  y_X12_spelt_20_78
theorem y_X12_spelt_20_57_s   : y_X12_spelt_20_57 = (
  y_X12_spelt_20_78) := rfl
def y_X12_spelt_20_38   : Int64 :=
  y_X12_spelt_20_57
theorem y_X12_spelt_20_38_s   : y_X12_spelt_20_38 = (
  y_X12_spelt_20_57) := rfl
def y_X12_spelt_20   : Int64 :=
  y_X12_spelt_20_38
theorem y_X12_spelt_20_s   : y_X12_spelt_20 = (
  y_X12_spelt_20_38) := rfl
def y_X12_spelt_21_99   : Int64 :=
  9753499
theorem y_X12_spelt_21_99_s   : y_X12_spelt_21_99 = (
  9753499) := rfl
def y_X12_spelt_21_78   : Int64 :=
  y_X12_spelt_21_99
theorem y_X12_spelt_21_78_s   : y_X12_spelt_21_78 = (
  y_X12_spelt_21_99) := rfl
def y_X12_spelt_21_57   : Int64 :=
  y_X12_spelt_21_78
theorem y_X12_spelt_21_57_s   : y_X12_spelt_21_57 = (
  y_X12_spelt_21_78) := rfl
def y_X12_spelt_21_38   : Int64 :=
  y_X12_spelt_21_57
theorem y_X12_spelt_21_38_s   : y_X12_spelt_21_38 = (
  y_X12_spelt_21_57) := rfl
def y_X12_spelt_21   : Int64 :=
  y_X12_spelt_21_38
theorem y_X12_spelt_21_s   : y_X12_spelt_21 = (
  y_X12_spelt_21_38) := rfl
def y_X12_spelt_22_99   : Int64 :=
  8694872
theorem y_X12_spelt_22_99_s   : y_X12_spelt_22_99 = (
  8694872) := rfl
def y_X12_spelt_22_78   : Int64 :=
  y_X12_spelt_22_99
theorem y_X12_spelt_22_78_s   : y_X12_spelt_22_78 = (
  y_X12_spelt_22_99) := rfl
def y_X12_spelt_22_57   : Int64 :=
  y_X12_spelt_22_78
theorem y_X12_spelt_22_57_s   : y_X12_spelt_22_57 = (
  y_X12_spelt_22_78) := rfl
def y_X12_spelt_22_38   : Int64 :=
  y_X12_spelt_22_57
theorem y_X12_spelt_22_38_s   : y_X12_spelt_22_38 = (
  y_X12_spelt_22_57) := rfl
def y_X12_spelt_22   : Int64 :=
  y_X12_spelt_22_38
theorem y_X12_spelt_22_s   : y_X12_spelt_22 = (
  y_X12_spelt_22_38) := rfl
def y_X12_spelt_23_99   : Int64 :=
  175125302
theorem y_X12_spelt_23_99_s   : y_X12_spelt_23_99 = (
  175125302) := rfl
def y_X12_spelt_23_78   : Int64 :=
  y_X12_spelt_23_99
theorem y_X12_spelt_23_78_s   : y_X12_spelt_23_78 = (
  y_X12_spelt_23_99) := rfl
def y_X12_spelt_23_57   : Int64 :=
  y_X12_spelt_23_78
theorem y_X12_spelt_23_57_s   : y_X12_spelt_23_57 = (
  y_X12_spelt_23_78) := rfl
def y_X12_spelt_23_38   : Int64 :=
  y_X12_spelt_23_57
theorem y_X12_spelt_23_38_s   : y_X12_spelt_23_38 = (
  y_X12_spelt_23_57) := rfl
def y_X12_spelt_23   : Int64 :=
  y_X12_spelt_23_38
theorem y_X12_spelt_23_s   : y_X12_spelt_23 = (
  y_X12_spelt_23_38) := rfl
def y_X12_spelt_24_99   : Int64 :=
  2234944
theorem y_X12_spelt_24_99_s   : y_X12_spelt_24_99 = (
  2234944) := rfl
def y_X12_spelt_24_78   : Int64 :=
  y_X12_spelt_24_99
theorem y_X12_spelt_24_78_s   : y_X12_spelt_24_78 = (
  y_X12_spelt_24_99) := rfl
def y_X12_spelt_24_57   : Int64 :=
  y_X12_spelt_24_78
theorem y_X12_spelt_24_57_s   : y_X12_spelt_24_57 = (
  y_X12_spelt_24_78) := rfl
def y_X12_spelt_24_38   : Int64 :=
  y_X12_spelt_24_57
theorem y_X12_spelt_24_38_s   : y_X12_spelt_24_38 = (
  y_X12_spelt_24_57) := rfl
def y_X12_spelt_24   : Int64 :=
  y_X12_spelt_24_38
theorem y_X12_spelt_24_s   : y_X12_spelt_24 = (
  y_X12_spelt_24_38) := rfl
def y_X12_spelt_25_99   : Int64 :=
  212302449
theorem y_X12_spelt_25_99_s   : y_X12_spelt_25_99 = (
  212302449) := rfl
def y_X12_spelt_25_78   : Int64 :=
  y_X12_spelt_25_99
theorem y_X12_spelt_25_78_s   : y_X12_spelt_25_78 = (
  y_X12_spelt_25_99) := rfl
def y_X12_spelt_25_57   : Int64 :=
  y_X12_spelt_25_78
theorem y_X12_spelt_25_57_s   : y_X12_spelt_25_57 = (
  y_X12_spelt_25_78) := rfl
def y_X12_spelt_25_38   : Int64 :=
  y_X12_spelt_25_57
theorem y_X12_spelt_25_38_s   : y_X12_spelt_25_38 = (
  y_X12_spelt_25_57) := rfl
def y_X12_spelt_25   : Int64 :=
  y_X12_spelt_25_38
theorem y_X12_spelt_25_s   : y_X12_spelt_25 = (
  y_X12_spelt_25_38) := rfl
def y_X12_wordOf_0   : Int64 :=
  lt1 (y_X12_spelt_0) fun (r_5 : Int64) =>
  5741298
theorem y_X12_wordOf_0_s   : y_X12_wordOf_0 = (
  lt1 (y_X12_spelt_0) fun (r_5 : Int64) =>
  5741298) := rfl
def y_X12_wordOf_1   : Int64 :=
  lt1 (y_X12_spelt_1) fun (r_5 : Int64) =>
  275320840
theorem y_X12_wordOf_1_s   : y_X12_wordOf_1 = (
  lt1 (y_X12_spelt_1) fun (r_5 : Int64) =>
  275320840) := rfl
def y_X12_wordOf_2   : Int64 :=
  lt1 (y_X12_spelt_2) fun (r_5 : Int64) =>
  3436200
theorem y_X12_wordOf_2_s   : y_X12_wordOf_2 = (
  lt1 (y_X12_spelt_2) fun (r_5 : Int64) =>
  3436200) := rfl
def y_X12_wordOf_3   : Int64 :=
  lt1 (y_X12_spelt_3) fun (r_5 : Int64) =>
  60296
theorem y_X12_wordOf_3_s   : y_X12_wordOf_3 = (
  lt1 (y_X12_spelt_3) fun (r_5 : Int64) =>
  60296) := rfl
def y_X12_wordOf_4   : Int64 :=
  lt1 (y_X12_spelt_4) fun (r_5 : Int64) =>
  11052508
theorem y_X12_wordOf_4_s   : y_X12_wordOf_4 = (
  lt1 (y_X12_spelt_4) fun (r_5 : Int64) =>
  11052508) := rfl
def y_X12_wordOf_5   : Int64 :=
  lt1 (y_X12_spelt_5) fun (r_5 : Int64) =>
  11318
theorem y_X12_wordOf_5_s   : y_X12_wordOf_5 = (
  lt1 (y_X12_spelt_5) fun (r_5 : Int64) =>
  11318) := rfl
def y_X12_wordOf_6   : Int64 :=
  lt1 (y_X12_spelt_6) fun (r_5 : Int64) =>
  82775
theorem y_X12_wordOf_6_s   : y_X12_wordOf_6 = (
  lt1 (y_X12_spelt_6) fun (r_5 : Int64) =>
  82775) := rfl
def y_X12_wordOf_7   : Int64 :=
  lt1 (y_X12_spelt_7) fun (r_5 : Int64) =>
  381097
theorem y_X12_wordOf_7_s   : y_X12_wordOf_7 = (
  lt1 (y_X12_spelt_7) fun (r_5 : Int64) =>
  381097) := rfl
def y_X12_wordOf_8   : Int64 :=
  lt1 (y_X12_spelt_8) fun (r_5 : Int64) =>
  9757090
theorem y_X12_wordOf_8_s   : y_X12_wordOf_8 = (
  lt1 (y_X12_spelt_8) fun (r_5 : Int64) =>
  9757090) := rfl
def y_X12_wordOf_9   : Int64 :=
  lt1 (y_X12_spelt_9) fun (r_5 : Int64) =>
  4555648
theorem y_X12_wordOf_9_s   : y_X12_wordOf_9 = (
  lt1 (y_X12_spelt_9) fun (r_5 : Int64) =>
  4555648) := rfl
def y_X12_wordOf_10   : Int64 :=
  lt1 (y_X12_spelt_10) fun (r_5 : Int64) =>
  2491444
theorem y_X12_wordOf_10_s   : y_X12_wordOf_10 = (
  lt1 (y_X12_spelt_10) fun (r_5 : Int64) =>
  2491444) := rfl
def y_X12_wordOf_11   : Int64 :=
  lt1 (y_X12_spelt_11) fun (r_5 : Int64) =>
  31389431
theorem y_X12_wordOf_11_s   : y_X12_wordOf_11 = (
  lt1 (y_X12_spelt_11) fun (r_5 : Int64) =>
  31389431) := rfl
def y_X12_wordOf_12   : Int64 :=
  lt1 (y_X12_spelt_12) fun (r_5 : Int64) =>
  15091
theorem y_X12_wordOf_12_s   : y_X12_wordOf_12 = (
  lt1 (y_X12_spelt_12) fun (r_5 : Int64) =>
  15091) := rfl
def y_X12_wordOf_13   : Int64 :=
  lt1 (y_X12_spelt_13) fun (r_5 : Int64) =>
  23170575
theorem y_X12_wordOf_13_s   : y_X12_wordOf_13 = (
  lt1 (y_X12_spelt_13) fun (r_5 : Int64) =>
  23170575) := rfl
def y_X12_wordOf_14   : Int64 :=
  lt1 (y_X12_spelt_14) fun (r_5 : Int64) =>
  2968
theorem y_X12_wordOf_14_s   : y_X12_wordOf_14 = (
  lt1 (y_X12_spelt_14) fun (r_5 : Int64) =>
  2968) := rfl
def y_X12_wordOf_15   : Int64 :=
  lt1 (y_X12_spelt_15) fun (r_5 : Int64) =>
  423
theorem y_X12_wordOf_15_s   : y_X12_wordOf_15 = (
  lt1 (y_X12_spelt_15) fun (r_5 : Int64) =>
  423) := rfl
def y_X12_wordOf_16   : Int64 :=
  lt1 (y_X12_spelt_16) fun (r_5 : Int64) =>
  1111
theorem y_X12_wordOf_16_s   : y_X12_wordOf_16 = (
  lt1 (y_X12_spelt_16) fun (r_5 : Int64) =>
  1111) := rfl
def y_X12_wordOf_17   : Int64 :=
  lt1 (y_X12_spelt_17) fun (r_5 : Int64) =>
  10631
theorem y_X12_wordOf_17_s   : y_X12_wordOf_17 = (
  lt1 (y_X12_spelt_17) fun (r_5 : Int64) =>
  10631) := rfl
def y_X12_wordOf_18   : Int64 :=
  lt1 (y_X12_spelt_18) fun (r_5 : Int64) =>
  7501158880
theorem y_X12_wordOf_18_s   : y_X12_wordOf_18 = (
  lt1 (y_X12_spelt_18) fun (r_5 : Int64) =>
  7501158880) := rfl
def y_X12_wordOf_19   : Int64 :=
  lt1 (y_X12_spelt_19) fun (r_5 : Int64) =>
  3321060487
theorem y_X12_wordOf_19_s   : y_X12_wordOf_19 = (
  lt1 (y_X12_spelt_19) fun (r_5 : Int64) =>
  3321060487) := rfl
def y_X12_wordOf_20   : Int64 :=
  lt1 (y_X12_spelt_20) fun (r_5 : Int64) =>
  60343114
theorem y_X12_wordOf_20_s   : y_X12_wordOf_20 = (
  lt1 (y_X12_spelt_20) fun (r_5 : Int64) =>
  60343114) := rfl
def y_X12_wordOf_21   : Int64 :=
  lt1 (y_X12_spelt_21) fun (r_5 : Int64) =>
  9753499
theorem y_X12_wordOf_21_s   : y_X12_wordOf_21 = (
  lt1 (y_X12_spelt_21) fun (r_5 : Int64) =>
  9753499) := rfl
def y_X12_wordOf_22   : Int64 :=
  lt1 (y_X12_spelt_22) fun (r_5 : Int64) =>
  8694872
theorem y_X12_wordOf_22_s   : y_X12_wordOf_22 = (
  lt1 (y_X12_spelt_22) fun (r_5 : Int64) =>
  8694872) := rfl
def y_X12_wordOf_23   : Int64 :=
  lt1 (y_X12_spelt_23) fun (r_5 : Int64) =>
  175125302
theorem y_X12_wordOf_23_s   : y_X12_wordOf_23 = (
  lt1 (y_X12_spelt_23) fun (r_5 : Int64) =>
  175125302) := rfl
def y_X12_wordOf_24   : Int64 :=
  lt1 (y_X12_spelt_24) fun (r_5 : Int64) =>
  2234944
theorem y_X12_wordOf_24_s   : y_X12_wordOf_24 = (
  lt1 (y_X12_spelt_24) fun (r_5 : Int64) =>
  2234944) := rfl
def y_X12_wordOf_25   : Int64 :=
  lt1 (y_X12_spelt_25) fun (r_5 : Int64) =>
  212302449
theorem y_X12_wordOf_25_s   : y_X12_wordOf_25 = (
  lt1 (y_X12_spelt_25) fun (r_5 : Int64) =>
  212302449) := rfl
def y_X12_wordOf (a1 : Int32)  : Int64 :=
  if (a1 : Int32) = 0 then (
   lt1 (y_X12_spelt_0) fun (r_131 : Int64) =>
   5741298
  ) else (
   if (a1 : Int32) = 1 then (
    lt1 (y_X12_spelt_1) fun (r_136 : Int64) =>
    275320840
   ) else (
    if (a1 : Int32) = 2 then (
     lt1 (y_X12_spelt_2) fun (r_141 : Int64) =>
     3436200
    ) else (
     if (a1 : Int32) = 3 then (
      lt1 (y_X12_spelt_3) fun (r_146 : Int64) =>
      60296
     ) else (
      if (a1 : Int32) = 4 then (
       lt1 (y_X12_spelt_4) fun (r_151 : Int64) =>
       11052508
      ) else (
       if (a1 : Int32) = 5 then (
        lt1 (y_X12_spelt_5) fun (r_156 : Int64) =>
        11318
       ) else (
        if (a1 : Int32) = 6 then (
         lt1 (y_X12_spelt_6) fun (r_161 : Int64) =>
         82775
        ) else (
         if (a1 : Int32) = 7 then (
          lt1 (y_X12_spelt_7) fun (r_166 : Int64) =>
          381097
         ) else (
          if (a1 : Int32) = 8 then (
           lt1 (y_X12_spelt_8) fun (r_171 : Int64) =>
           9757090
          ) else (
           if (a1 : Int32) = 9 then (
            lt1 (y_X12_spelt_9) fun (r_176 : Int64) =>
            4555648
           ) else (
            if (a1 : Int32) = 10 then (
             lt1 (y_X12_spelt_10) fun (r_181 : Int64) =>
             2491444
            ) else (
             if (a1 : Int32) = 11 then (
              lt1 (y_X12_spelt_11) fun (r_186 : Int64) =>
              31389431
             ) else (
              if (a1 : Int32) = 12 then (
               lt1 (y_X12_spelt_12) fun (r_191 : Int64) =>
               15091
              ) else (
               if (a1 : Int32) = 13 then (
                lt1 (y_X12_spelt_13) fun (r_196 : Int64) =>
                23170575
               ) else (
                if (a1 : Int32) = 14 then (
                 lt1 (y_X12_spelt_14) fun (r_201 : Int64) =>
                 2968
                ) else (
                 if (a1 : Int32) = 15 then (
                  lt1 (y_X12_spelt_15) fun (r_206 : Int64) =>
                  423
                 ) else (
                  if (a1 : Int32) = 16 then (
                   lt1 (y_X12_spelt_16) fun (r_211 : Int64) =>
                   1111
                  ) else (
                   if (a1 : Int32) = 17 then (
                    lt1 (y_X12_spelt_17) fun (r_216 : Int64) =>
                    10631
                   ) else (
                    if (a1 : Int32) = 18 then (
                     lt1 (y_X12_spelt_18) fun (r_221 : Int64) =>
                     7501158880
                    ) else (
                     if (a1 : Int32) = 19 then (
                      lt1 (y_X12_spelt_19) fun (r_226 : Int64) =>
                      3321060487
                     ) else (
                      if (a1 : Int32) = 20 then (
                       lt1 (y_X12_spelt_20) fun (r_231 : Int64) =>
                       60343114
                      ) else (
                       if (a1 : Int32) = 21 then (
                        lt1 (y_X12_spelt_21) fun (r_236 : Int64) =>
                        9753499
                       ) else (
                        if (a1 : Int32) = 22 then (
                         lt1 (y_X12_spelt_22) fun (r_241 : Int64) =>
                         8694872
                        ) else (
                         if (a1 : Int32) = 23 then (
                          lt1 (y_X12_spelt_23) fun (r_246 : Int64) =>
                          175125302
                         ) else (
                          if (a1 : Int32) = 24 then (
                           lt1 (y_X12_spelt_24) fun (r_251 : Int64) =>
                           2234944
                          ) else (
                           lt1 (y_X12_spelt_25) fun (r_255 : Int64) =>
                           212302449
                          )
                         )
                        )
                       )
                      )
                     )
                    )
                   )
                  )
                 )
                )
               )
              )
             )
            )
           )
          )
         )
        )
       )
      )
     )
    )
   )
  )
theorem y_X12_wordOf_s (a1 : Int32)  : y_X12_wordOf a1 = (
  if (a1 : Int32) = 0 then (
   lt1 (y_X12_spelt_0) fun (r_131 : Int64) =>
   5741298
  ) else (
   if (a1 : Int32) = 1 then (
    lt1 (y_X12_spelt_1) fun (r_136 : Int64) =>
    275320840
   ) else (
    if (a1 : Int32) = 2 then (
     lt1 (y_X12_spelt_2) fun (r_141 : Int64) =>
     3436200
    ) else (
     if (a1 : Int32) = 3 then (
      lt1 (y_X12_spelt_3) fun (r_146 : Int64) =>
      60296
     ) else (
      if (a1 : Int32) = 4 then (
       lt1 (y_X12_spelt_4) fun (r_151 : Int64) =>
       11052508
      ) else (
       if (a1 : Int32) = 5 then (
        lt1 (y_X12_spelt_5) fun (r_156 : Int64) =>
        11318
       ) else (
        if (a1 : Int32) = 6 then (
         lt1 (y_X12_spelt_6) fun (r_161 : Int64) =>
         82775
        ) else (
         if (a1 : Int32) = 7 then (
          lt1 (y_X12_spelt_7) fun (r_166 : Int64) =>
          381097
         ) else (
          if (a1 : Int32) = 8 then (
           lt1 (y_X12_spelt_8) fun (r_171 : Int64) =>
           9757090
          ) else (
           if (a1 : Int32) = 9 then (
            lt1 (y_X12_spelt_9) fun (r_176 : Int64) =>
            4555648
           ) else (
            if (a1 : Int32) = 10 then (
             lt1 (y_X12_spelt_10) fun (r_181 : Int64) =>
             2491444
            ) else (
             if (a1 : Int32) = 11 then (
              lt1 (y_X12_spelt_11) fun (r_186 : Int64) =>
              31389431
             ) else (
              if (a1 : Int32) = 12 then (
               lt1 (y_X12_spelt_12) fun (r_191 : Int64) =>
               15091
              ) else (
               if (a1 : Int32) = 13 then (
                lt1 (y_X12_spelt_13) fun (r_196 : Int64) =>
                23170575
               ) else (
                if (a1 : Int32) = 14 then (
                 lt1 (y_X12_spelt_14) fun (r_201 : Int64) =>
                 2968
                ) else (
                 if (a1 : Int32) = 15 then (
                  lt1 (y_X12_spelt_15) fun (r_206 : Int64) =>
                  423
                 ) else (
                  if (a1 : Int32) = 16 then (
                   lt1 (y_X12_spelt_16) fun (r_211 : Int64) =>
                   1111
                  ) else (
                   if (a1 : Int32) = 17 then (
                    lt1 (y_X12_spelt_17) fun (r_216 : Int64) =>
                    10631
                   ) else (
                    if (a1 : Int32) = 18 then (
                     lt1 (y_X12_spelt_18) fun (r_221 : Int64) =>
                     7501158880
                    ) else (
                     if (a1 : Int32) = 19 then (
                      lt1 (y_X12_spelt_19) fun (r_226 : Int64) =>
                      3321060487
                     ) else (
                      if (a1 : Int32) = 20 then (
                       lt1 (y_X12_spelt_20) fun (r_231 : Int64) =>
                       60343114
                      ) else (
                       if (a1 : Int32) = 21 then (
                        lt1 (y_X12_spelt_21) fun (r_236 : Int64) =>
                        9753499
                       ) else (
                        if (a1 : Int32) = 22 then (
                         lt1 (y_X12_spelt_22) fun (r_241 : Int64) =>
                         8694872
                        ) else (
                         if (a1 : Int32) = 23 then (
                          lt1 (y_X12_spelt_23) fun (r_246 : Int64) =>
                          175125302
                         ) else (
                          if (a1 : Int32) = 24 then (
                           lt1 (y_X12_spelt_24) fun (r_251 : Int64) =>
                           2234944
                          ) else (
                           lt1 (y_X12_spelt_25) fun (r_255 : Int64) =>
                           212302449
                          )
                         )
                        )
                       )
                      )
                     )
                    )
                   )
                  )
                 )
                )
               )
              )
             )
            )
           )
          )
         )
        )
       )
      )
     )
    )
   )
  )) := rfl
def y_X12_isWord_0 (h0_kind : Int32) (h0_word : Int64)  : Int32 :=
  if (h0_kind : Int32) = 2 then (
   lt1 (y_X12_wordOf_0) fun (r_23 : Int64) =>
   lt1 (lg_cmp (h0_word : Int64) 5741298) fun (x_27 : Int32) =>
   if (x_27 : Int32) = 0 then (
    1
   ) else (
    0
   )
  ) else (
   0
  )
theorem y_X12_isWord_0_s (h0_kind : Int32) (h0_word : Int64)  : y_X12_isWord_0 h0_kind h0_word = (
  if (h0_kind : Int32) = 2 then (
   lt1 (y_X12_wordOf_0) fun (r_23 : Int64) =>
   lt1 (lg_cmp (h0_word : Int64) 5741298) fun (x_27 : Int32) =>
   if (x_27 : Int32) = 0 then (
    1
   ) else (
    0
   )
  ) else (
   0
  )) := rfl
def y_X12_isWord_1 (h0_kind : Int32) (h0_word : Int64)  : Int32 :=
  if (h0_kind : Int32) = 2 then (
   lt1 (y_X12_wordOf_1) fun (r_23 : Int64) =>
   lt1 (lg_cmp (h0_word : Int64) 275320840) fun (x_27 : Int32) =>
   if (x_27 : Int32) = 0 then (
    1
   ) else (
    0
   )
  ) else (
   0
  )
theorem y_X12_isWord_1_s (h0_kind : Int32) (h0_word : Int64)  : y_X12_isWord_1 h0_kind h0_word = (
  if (h0_kind : Int32) = 2 then (
   lt1 (y_X12_wordOf_1) fun (r_23 : Int64) =>
   lt1 (lg_cmp (h0_word : Int64) 275320840) fun (x_27 : Int32) =>
   if (x_27 : Int32) = 0 then (
    1
   ) else (
    0
   )
  ) else (
   0
  )) := rfl
def y_X12_isWord_2 (h0_kind : Int32) (h0_word : Int64)  : Int32 :=
  if (h0_kind : Int32) = 2 then (
   lt1 (y_X12_wordOf_2) fun (r_23 : Int64) =>
   lt1 (lg_cmp (h0_word : Int64) 3436200) fun (x_27 : Int32) =>
   if (x_27 : Int32) = 0 then (
    1
   ) else (
    0
   )
  ) else (
   0
  )
theorem y_X12_isWord_2_s (h0_kind : Int32) (h0_word : Int64)  : y_X12_isWord_2 h0_kind h0_word = (
  if (h0_kind : Int32) = 2 then (
   lt1 (y_X12_wordOf_2) fun (r_23 : Int64) =>
   lt1 (lg_cmp (h0_word : Int64) 3436200) fun (x_27 : Int32) =>
   if (x_27 : Int32) = 0 then (
    1
   ) else (
    0
   )
  ) else (
   0
  )) := rfl
def y_X12_isWord_3 (h0_kind : Int32) (h0_word : Int64)  : Int32 :=
  if (h0_kind : Int32) = 2 then (
   lt1 (y_X12_wordOf_3) fun (r_23 : Int64) =>
   lt1 (lg_cmp (h0_word : Int64) 60296) fun (x_27 : Int32) =>
   if (x_27 : Int32) = 0 then (
    1
   ) else (
    0
   )
  ) else (
   0
  )
theorem y_X12_isWord_3_s (h0_kind : Int32) (h0_word : Int64)  : y_X12_isWord_3 h0_kind h0_word = (
  if (h0_kind : Int32) = 2 then (
   lt1 (y_X12_wordOf_3) fun (r_23 : Int64) =>
   lt1 (lg_cmp (h0_word : Int64) 60296) fun (x_27 : Int32) =>
   if (x_27 : Int32) = 0 then (
    1
   ) else (
    0
   )
  ) else (
   0
  )) := rfl
def y_X12_isWord_4 (h0_kind : Int32) (h0_word : Int64)  : Int32 :=
  if (h0_kind : Int32) = 2 then (
   lt1 (y_X12_wordOf_4) fun (r_23 : Int64) =>
   lt1 (lg_cmp (h0_word : Int64) 11052508) fun (x_27 : Int32) =>
   if (x_27 : Int32) = 0 then (
    1
   ) else (
    0
   )
  ) else (
   0
  )
theorem y_X12_isWord_4_s (h0_kind : Int32) (h0_word : Int64)  : y_X12_isWord_4 h0_kind h0_word = (
  if (h0_kind : Int32) = 2 then (
   lt1 (y_X12_wordOf_4) fun (r_23 : Int64) =>
   lt1 (lg_cmp (h0_word : Int64) 11052508) fun (x_27 : Int32) =>
   if (x_27 : Int32) = 0 then (
    1
   ) else (
    0
   )
  ) else (
   0
  )) := rfl
def y_X12_isWord_5 (h0_kind : Int32) (h0_word : Int64)  : Int32 :=
  if (h0_kind : Int32) = 2 then (
   lt1 (y_X12_wordOf_5) fun (r_23 : Int64) =>
   lt1 (lg_cmp (h0_word : Int64) 11318) fun (x_27 : Int32) =>
   if (x_27 : Int32) = 0 then (
    1
   ) else (
    0
   )
  ) else (
   0
  )
theorem y_X12_isWord_5_s (h0_kind : Int32) (h0_word : Int64)  : y_X12_isWord_5 h0_kind h0_word = (
  if (h0_kind : Int32) = 2 then (
   lt1 (y_X12_wordOf_5) fun (r_23 : Int64) =>
   lt1 (lg_cmp (h0_word : Int64) 11318) fun (x_27 : Int32) =>
   if (x_27 : Int32) = 0 then (
    1
   ) else (
    0
   )
  ) else (
   0
  )) := rfl
def y_X12_isWord_6 (h0_kind : Int32) (h0_word : Int64)  : Int32 :=
  if (h0_kind : Int32) = 2 then (
   lt1 (y_X12_wordOf_6) fun (r_23 : Int64) =>
   lt1 (lg_cmp (h0_word : Int64) 82775) fun (x_27 : Int32) =>
   if (x_27 : Int32) = 0 then (
    1
   ) else (
    0
   )
  ) else (
   0
  )
theorem y_X12_isWord_6_s (h0_kind : Int32) (h0_word : Int64)  : y_X12_isWord_6 h0_kind h0_word = (
  if (h0_kind : Int32) = 2 then (
   lt1 (y_X12_wordOf_6) fun (r_23 : Int64) =>
   lt1 (lg_cmp (h0_word : Int64) 82775) fun (x_27 : Int32) =>
   if (x_27 : Int32) = 0 then (
    1
   ) else (
    0
   )
  ) else (
   0
  )) := rfl
def y_X12_isWord_7 (h0_kind : Int32) (h0_word : Int64)  : Int32 :=
  if (h0_kind : Int32) = 2 then (
   lt1 (y_X12_wordOf_7) fun (r_23 : Int64) =>
   lt1 (lg_cmp (h0_word : Int64) 381097) fun (x_27 : Int32) =>
   if (x_27 : Int32) = 0 then (
    1
   ) else (
    0
   )
  ) else (
   0
  )
theorem y_X12_isWord_7_s (h0_kind : Int32) (h0_word : Int64)  : y_X12_isWord_7 h0_kind h0_word = (
  if (h0_kind : Int32) = 2 then (
   lt1 (y_X12_wordOf_7) fun (r_23 : Int64) =>
   lt1 (lg_cmp (h0_word : Int64) 381097) fun (x_27 : Int32) =>
   if (x_27 : Int32) = 0 then (
    1
   ) else (
    0
   )
  ) else (
   0
  )) := rfl
def y_X12_isWord_8 (h0_kind : Int32) (h0_word : Int64)  : Int32 :=
  if (h0_kind : Int32) = 2 then (
   lt1 (y_X12_wordOf_8) fun (r_23 : Int64) =>
   lt1 (lg_cmp (h0_word : Int64) 9757090) fun (x_27 : Int32) =>
   if (x_27 : Int32) = 0 then (
    1
   ) else (
    0
   )
  ) else (
   0
  )
theorem y_X12_isWord_8_s (h0_kind : Int32) (h0_word : Int64)  : y_X12_isWord_8 h0_kind h0_word = (
  if (h0_kind : Int32) = 2 then (
   lt1 (y_X12_wordOf_8) fun (r_23 : Int64) =>
   lt1 (lg_cmp (h0_word : Int64) 9757090) fun (x_27 : Int32) =>
   if (x_27 : Int32) = 0 then (
    1
   ) else (
    0
   )
  ) else (
   0
  )) := rfl
def y_X12_isWord_9 (h0_kind : Int32) (h0_word : Int64)  : Int32 :=
  if (h0_kind : Int32) = 2 then (
   lt1 (y_X12_wordOf_9) fun (r_23 : Int64) =>
   lt1 (lg_cmp (h0_word : Int64) 4555648) fun (x_27 : Int32) =>
   if (x_27 : Int32) = 0 then (
    1
   ) else (
    0
   )
  ) else (
   0
  )
theorem y_X12_isWord_9_s (h0_kind : Int32) (h0_word : Int64)  : y_X12_isWord_9 h0_kind h0_word = (
  if (h0_kind : Int32) = 2 then (
   lt1 (y_X12_wordOf_9) fun (r_23 : Int64) =>
   lt1 (lg_cmp (h0_word : Int64) 4555648) fun (x_27 : Int32) =>
   if (x_27 : Int32) = 0 then (
    1
   ) else (
    0
   )
  ) else (
   0
  )) := rfl
def y_X12_isWord_10 (h0_kind : Int32) (h0_word : Int64)  : Int32 :=
  if (h0_kind : Int32) = 2 then (
   lt1 (y_X12_wordOf_10) fun (r_23 : Int64) =>
   lt1 (lg_cmp (h0_word : Int64) 2491444) fun (x_27 : Int32) =>
   if (x_27 : Int32) = 0 then (
    1
   ) else (
    0
   )
  ) else (
   0
  )
theorem y_X12_isWord_10_s (h0_kind : Int32) (h0_word : Int64)  : y_X12_isWord_10 h0_kind h0_word = (
  if (h0_kind : Int32) = 2 then (
   lt1 (y_X12_wordOf_10) fun (r_23 : Int64) =>
   lt1 (lg_cmp (h0_word : Int64) 2491444) fun (x_27 : Int32) =>
   if (x_27 : Int32) = 0 then (
    1
   ) else (
    0
   )
  ) else (
   0
  )) := rfl
def y_X12_isWord_11 (h0_kind : Int32) (h0_word : Int64)  : Int32 :=
  if (h0_kind : Int32) = 2 then (
   lt1 (y_X12_wordOf_11) fun (r_23 : Int64) =>
   lt1 (lg_cmp (h0_word : Int64) 31389431) fun (x_27 : Int32) =>
   if (x_27 : Int32) = 0 then (
    1
   ) else (
    0
   )
  ) else (
   0
  )
theorem y_X12_isWord_11_s (h0_kind : Int32) (h0_word : Int64)  : y_X12_isWord_11 h0_kind h0_word = (
  if (h0_kind : Int32) = 2 then (
   lt1 (y_X12_wordOf_11) fun (r_23 : Int64) =>
   lt1 (lg_cmp (h0_word : Int64) 31389431) fun (x_27 : Int32) =>
   if (x_27 : Int32) = 0 then (
    1
   ) else (
    0
   )
  ) else (
   0
  )) := rfl
def y_X12_isWord_12 (h0_kind : Int32) (h0_word : Int64)  : Int32 :=
  if (h0_kind : Int32) = 2 then (
   lt1 (y_X12_wordOf_12) fun (r_23 : Int64) =>
   lt1 (lg_cmp (h0_word : Int64) 15091) fun (x_27 : Int32) =>
   if (x_27 : Int32) = 0 then (
    1
   ) else (
    0
   )
  ) else (
   0
  )
theorem y_X12_isWord_12_s (h0_kind : Int32) (h0_word : Int64)  : y_X12_isWord_12 h0_kind h0_word = (
  if (h0_kind : Int32) = 2 then (
   lt1 (y_X12_wordOf_12) fun (r_23 : Int64) =>
   lt1 (lg_cmp (h0_word : Int64) 15091) fun (x_27 : Int32) =>
   if (x_27 : Int32) = 0 then (
    1
   ) else (
    0
   )
  ) else (
   0
  )) := rfl
def y_X12_isWord_13 (h0_kind : Int32) (h0_word : Int64)  : Int32 :=
  if (h0_kind : Int32) = 2 then (
   lt1 (y_X12_wordOf_13) fun (r_23 : Int64) =>
   lt1 (lg_cmp (h0_word : Int64) 23170575) fun (x_27 : Int32) =>
   if (x_27 : Int32) = 0 then (
    1
   ) else (
    0
   )
  ) else (
   0
  )
theorem y_X12_isWord_13_s (h0_kind : Int32) (h0_word : Int64)  : y_X12_isWord_13 h0_kind h0_word = (
  if (h0_kind : Int32) = 2 then (
   lt1 (y_X12_wordOf_13) fun (r_23 : Int64) =>
   lt1 (lg_cmp (h0_word : Int64) 23170575) fun (x_27 : Int32) =>
   if (x_27 : Int32) = 0 then (
    1
   ) else (
    0
   )
  ) else (
   0
  )) := rfl
def y_X12_isWord_14 (h0_kind : Int32) (h0_word : Int64)  : Int32 :=
  if (h0_kind : Int32) = 2 then (
   lt1 (y_X12_wordOf_14) fun (r_23 : Int64) =>
   lt1 (lg_cmp (h0_word : Int64) 2968) fun (x_27 : Int32) =>
   if (x_27 : Int32) = 0 then (
    1
   ) else (
    0
   )
  ) else (
   0
  )
theorem y_X12_isWord_14_s (h0_kind : Int32) (h0_word : Int64)  : y_X12_isWord_14 h0_kind h0_word = (
  if (h0_kind : Int32) = 2 then (
   lt1 (y_X12_wordOf_14) fun (r_23 : Int64) =>
   lt1 (lg_cmp (h0_word : Int64) 2968) fun (x_27 : Int32) =>
   if (x_27 : Int32) = 0 then (
    1
   ) else (
    0
   )
  ) else (
   0
  )) := rfl
def y_X12_isWord_15 (h0_kind : Int32) (h0_word : Int64)  : Int32 :=
  if (h0_kind : Int32) = 2 then (
   lt1 (y_X12_wordOf_15) fun (r_23 : Int64) =>
   lt1 (lg_cmp (h0_word : Int64) 423) fun (x_27 : Int32) =>
   if (x_27 : Int32) = 0 then (
    1
   ) else (
    0
   )
  ) else (
   0
  )
theorem y_X12_isWord_15_s (h0_kind : Int32) (h0_word : Int64)  : y_X12_isWord_15 h0_kind h0_word = (
  if (h0_kind : Int32) = 2 then (
   lt1 (y_X12_wordOf_15) fun (r_23 : Int64) =>
   lt1 (lg_cmp (h0_word : Int64) 423) fun (x_27 : Int32) =>
   if (x_27 : Int32) = 0 then (
    1
   ) else (
    0
   )
  ) else (
   0
  )) := rfl
def y_X12_isWord_16 (h0_kind : Int32) (h0_word : Int64)  : Int32 :=
  if (h0_kind : Int32) = 2 then (
   lt1 (y_X12_wordOf_16) fun (r_23 : Int64) =>
   lt1 (lg_cmp (h0_word : Int64) 1111) fun (x_27 : Int32) =>
   if (x_27 : Int32) = 0 then (
    1
   ) else (
    0
   )
  ) else (
   0
  )
theorem y_X12_isWord_16_s (h0_kind : Int32) (h0_word : Int64)  : y_X12_isWord_16 h0_kind h0_word = (
  if (h0_kind : Int32) = 2 then (
   lt1 (y_X12_wordOf_16) fun (r_23 : Int64) =>
   lt1 (lg_cmp (h0_word : Int64) 1111) fun (x_27 : Int32) =>
   if (x_27 : Int32) = 0 then (
    1
   ) else (
    0
   )
  ) else (
   0
  )) := rfl
def y_X12_isWord_17 (h0_kind : Int32) (h0_word : Int64)  : Int32 :=
  if (h0_kind : Int32) = 2 then (
   lt1 (y_X12_wordOf_17) fun (r_23 : Int64) =>
   lt1 (lg_cmp (h0_word : Int64) 10631) fun (x_27 : Int32) =>
   if (x_27 : Int32) = 0 then (
    1
   ) else (
    0
   )
  ) else (
   0
  )
theorem y_X12_isWord_17_s (h0_kind : Int32) (h0_word : Int64)  : y_X12_isWord_17 h0_kind h0_word = (
  if (h0_kind : Int32) = 2 then (
   lt1 (y_X12_wordOf_17) fun (r_23 : Int64) =>
   lt1 (lg_cmp (h0_word : Int64) 10631) fun (x_27 : Int32) =>
   if (x_27 : Int32) = 0 then (
    1
   ) else (
    0
   )
  ) else (
   0
  )) := rfl
def y_X12_isWord_18 (h0_kind : Int32) (h0_word : Int64)  : Int32 :=
  if (h0_kind : Int32) = 2 then (
   lt1 (y_X12_wordOf_18) fun (r_23 : Int64) =>
   lt1 (lg_cmp (h0_word : Int64) 7501158880) fun (x_27 : Int32) =>
   if (x_27 : Int32) = 0 then (
    1
   ) else (
    0
   )
  ) else (
   0
  )
theorem y_X12_isWord_18_s (h0_kind : Int32) (h0_word : Int64)  : y_X12_isWord_18 h0_kind h0_word = (
  if (h0_kind : Int32) = 2 then (
   lt1 (y_X12_wordOf_18) fun (r_23 : Int64) =>
   lt1 (lg_cmp (h0_word : Int64) 7501158880) fun (x_27 : Int32) =>
   if (x_27 : Int32) = 0 then (
    1
   ) else (
    0
   )
  ) else (
   0
  )) := rfl
def y_X12_isWord_19 (h0_kind : Int32) (h0_word : Int64)  : Int32 :=
  if (h0_kind : Int32) = 2 then (
   lt1 (y_X12_wordOf_19) fun (r_23 : Int64) =>
   lt1 (lg_cmp (h0_word : Int64) 3321060487) fun (x_27 : Int32) =>
   if (x_27 : Int32) = 0 then (
    1
   ) else (
    0
   )
  ) else (
   0
  )
theorem y_X12_isWord_19_s (h0_kind : Int32) (h0_word : Int64)  : y_X12_isWord_19 h0_kind h0_word = (
  if (h0_kind : Int32) = 2 then (
   lt1 (y_X12_wordOf_19) fun (r_23 : Int64) =>
   lt1 (lg_cmp (h0_word : Int64) 3321060487) fun (x_27 : Int32) =>
   if (x_27 : Int32) = 0 then (
    1
   ) else (
    0
   )
  ) else (
   0
  )) := rfl
def y_X12_isWord_20 (h0_kind : Int32) (h0_word : Int64)  : Int32 :=
  if (h0_kind : Int32) = 2 then (
   lt1 (y_X12_wordOf_20) fun (r_23 : Int64) =>
   lt1 (lg_cmp (h0_word : Int64) 60343114) fun (x_27 : Int32) =>
   if (x_27 : Int32) = 0 then (
    1
   ) else (
    0
   )
  ) else (
   0
  )
theorem y_X12_isWord_20_s (h0_kind : Int32) (h0_word : Int64)  : y_X12_isWord_20 h0_kind h0_word = (
  if (h0_kind : Int32) = 2 then (
   lt1 (y_X12_wordOf_20) fun (r_23 : Int64) =>
   lt1 (lg_cmp (h0_word : Int64) 60343114) fun (x_27 : Int32) =>
   if (x_27 : Int32) = 0 then (
    1
   ) else (
    0
   )
  ) else (
   0
  )) := rfl
def y_X12_isWord_21 (h0_kind : Int32) (h0_word : Int64)  : Int32 :=
  if (h0_kind : Int32) = 2 then (
   lt1 (y_X12_wordOf_21) fun (r_23 : Int64) =>
   lt1 (lg_cmp (h0_word : Int64) 9753499) fun (x_27 : Int32) =>
   if (x_27 : Int32) = 0 then (
    1
   ) else (
    0
   )
  ) else (
   0
  )
theorem y_X12_isWord_21_s (h0_kind : Int32) (h0_word : Int64)  : y_X12_isWord_21 h0_kind h0_word = (
  if (h0_kind : Int32) = 2 then (
   lt1 (y_X12_wordOf_21) fun (r_23 : Int64) =>
   lt1 (lg_cmp (h0_word : Int64) 9753499) fun (x_27 : Int32) =>
   if (x_27 : Int32) = 0 then (
    1
   ) else (
    0
   )
  ) else (
   0
  )) := rfl
def y_X12_isWord_22 (h0_kind : Int32) (h0_word : Int64)  : Int32 :=
  if (h0_kind : Int32) = 2 then (
   lt1 (y_X12_wordOf_22) fun (r_23 : Int64) =>
   lt1 (lg_cmp (h0_word : Int64) 8694872) fun (x_27 : Int32) =>
   if (x_27 : Int32) = 0 then (
    1
   ) else (
    0
   )
  ) else (
   0
  )
theorem y_X12_isWord_22_s (h0_kind : Int32) (h0_word : Int64)  : y_X12_isWord_22 h0_kind h0_word = (
  if (h0_kind : Int32) = 2 then (
   lt1 (y_X12_wordOf_22) fun (r_23 : Int64) =>
   lt1 (lg_cmp (h0_word : Int64) 8694872) fun (x_27 : Int32) =>
   if (x_27 : Int32) = 0 then (
    1
   ) else (
    0
   )
  ) else (
   0
  )) := rfl
def y_X12_isWord_23 (h0_kind : Int32) (h0_word : Int64)  : Int32 :=
  if (h0_kind : Int32) = 2 then (
   lt1 (y_X12_wordOf_23) fun (r_23 : Int64) =>
   lt1 (lg_cmp (h0_word : Int64) 175125302) fun (x_27 : Int32) =>
   if (x_27 : Int32) = 0 then (
    1
   ) else (
    0
   )
  ) else (
   0
  )
theorem y_X12_isWord_23_s (h0_kind : Int32) (h0_word : Int64)  : y_X12_isWord_23 h0_kind h0_word = (
  if (h0_kind : Int32) = 2 then (
   lt1 (y_X12_wordOf_23) fun (r_23 : Int64) =>
   lt1 (lg_cmp (h0_word : Int64) 175125302) fun (x_27 : Int32) =>
   if (x_27 : Int32) = 0 then (
    1
   ) else (
    0
   )
  ) else (
   0
  )) := rfl
def y_X12_isWord_24 (h0_kind : Int32) (h0_word : Int64)  : Int32 :=
  if (h0_kind : Int32) = 2 then (
   lt1 (y_X12_wordOf_24) fun (r_23 : Int64) =>
   lt1 (lg_cmp (h0_word : Int64) 2234944) fun (x_27 : Int32) =>
   if (x_27 : Int32) = 0 then (
    1
   ) else (
    0
   )
  ) else (
   0
  )
theorem y_X12_isWord_24_s (h0_kind : Int32) (h0_word : Int64)  : y_X12_isWord_24 h0_kind h0_word = (
  if (h0_kind : Int32) = 2 then (
   lt1 (y_X12_wordOf_24) fun (r_23 : Int64) =>
   lt1 (lg_cmp (h0_word : Int64) 2234944) fun (x_27 : Int32) =>
   if (x_27 : Int32) = 0 then (
    1
   ) else (
    0
   )
  ) else (
   0
  )) := rfl
def y_X12_isWord_25 (h0_kind : Int32) (h0_word : Int64)  : Int32 :=
  if (h0_kind : Int32) = 2 then (
   lt1 (y_X12_wordOf_25) fun (r_23 : Int64) =>
   lt1 (lg_cmp (h0_word : Int64) 212302449) fun (x_27 : Int32) =>
   if (x_27 : Int32) = 0 then (
    1
   ) else (
    0
   )
  ) else (
   0
  )
theorem y_X12_isWord_25_s (h0_kind : Int32) (h0_word : Int64)  : y_X12_isWord_25 h0_kind h0_word = (
  if (h0_kind : Int32) = 2 then (
   lt1 (y_X12_wordOf_25) fun (r_23 : Int64) =>
   lt1 (lg_cmp (h0_word : Int64) 212302449) fun (x_27 : Int32) =>
   if (x_27 : Int32) = 0 then (
    1
   ) else (
    0
   )
  ) else (
   0
  )) := rfl
def y_X12_bad_14  (y14_0 : Int32) : Int32 × Int32 :=
  (0, y14_0)
theorem y_X12_bad_14_s  (y14_0 : Int32) : y_X12_bad_14 y14_0 = (
  (0, y14_0)) := rfl
def y_X12_bad (a1 : Int32) (h0_kind : Int32)  : Int32 × Int32 :=
  if (h0_kind : Int32) = 1 then (
   y_X12_bad_14 1
  ) else (
   y_X12_bad_14 a1
  )
theorem y_X12_bad_s (a1 : Int32) (h0_kind : Int32)  : y_X12_bad a1 h0_kind = (
  if (h0_kind : Int32) = 1 then (
   y_X12_bad_14 1
  ) else (
   y_X12_bad_14 a1
  )) := rfl
def y_X12_readFirst_j (h0_size : Int32) (h0_limit : Int32) (h0_to : Int32) (h0_from : Int32) (h0_kind : Int32) (h0_number : Int32) (h0_sign : Int32) (h0_fault : Int32) (h0_place : Int32) (h0_word : Int64) (F_h0_read : Nat → Int32) (F_h0_tape : Nat → Int32)  : Int32 × Int32 × Int32 × Int32 × Int32 × Int32 × Int32 × Int32 × Int64 :=
  lt1 (F_h0_read (0 : Int32).toNatClampNeg) fun (x_27 : Int32) =>
  if (x_27 : Int32) = 10 then (
   lt2 (y_X12_bad 4 h0_kind) fun (r_48 : Int32) (u_50 : Int32) =>
   (0, h0_to, h0_from, h0_kind, h0_number, h0_sign, u_50, h0_from, h0_word)
  ) else (
   lt6 (y_X12_go h0_size h0_limit h0_to h0_number h0_sign h0_word F_h0_tape) fun (u_33 : Int32) (u_34 : Int32) (u_35 : Int32) (u_36 : Int32) (u_37 : Int32) (u_38 : Int64) =>
   (1, u_33, u_34, u_35, u_36, u_37, h0_fault, h0_place, u_38)
  )
theorem y_X12_readFirst_j_s (h0_size : Int32) (h0_limit : Int32) (h0_to : Int32) (h0_from : Int32) (h0_kind : Int32) (h0_number : Int32) (h0_sign : Int32) (h0_fault : Int32) (h0_place : Int32) (h0_word : Int64) (F_h0_read : Nat → Int32) (F_h0_tape : Nat → Int32)  : y_X12_readFirst_j h0_size h0_limit h0_to h0_from h0_kind h0_number h0_sign h0_fault h0_place h0_word F_h0_read F_h0_tape = (
  lt1 (F_h0_read (0 : Int32).toNatClampNeg) fun (x_27 : Int32) =>
  if (x_27 : Int32) = 10 then (
   lt2 (y_X12_bad 4 h0_kind) fun (r_48 : Int32) (u_50 : Int32) =>
   (0, h0_to, h0_from, h0_kind, h0_number, h0_sign, u_50, h0_from, h0_word)
  ) else (
   lt6 (y_X12_go h0_size h0_limit h0_to h0_number h0_sign h0_word F_h0_tape) fun (u_33 : Int32) (u_34 : Int32) (u_35 : Int32) (u_36 : Int32) (u_37 : Int32) (u_38 : Int64) =>
   (1, u_33, u_34, u_35, u_36, u_37, h0_fault, h0_place, u_38)
  )) := rfl
def y_X12_readFirst_f (h0_size : Int32) (h0_limit : Int32) (h0_to : Int32) (h0_from : Int32) (h0_kind : Int32) (h0_number : Int32) (h0_sign : Int32) (h0_fault : Int32) (h0_place : Int32) (h0_word : Int64) (F_h0_read : Nat → Int32) (F_h0_tape : Nat → Int32)  : Int32 × Int32 × Int32 × Int32 × Int32 × Int32 × Int32 × Int32 × Int64 :=
  lt1 (F_h0_read (1 : Int32).toNatClampNeg) fun (x_27 : Int32) =>
  if (x_27 : Int32) = 4 then (
   lt2 (y_X12_bad 4 h0_kind) fun (r_48 : Int32) (u_50 : Int32) =>
   (0, h0_to, h0_from, h0_kind, h0_number, h0_sign, u_50, h0_from, h0_word)
  ) else (
   lt6 (y_X12_go h0_size h0_limit h0_to h0_number h0_sign h0_word F_h0_tape) fun (u_33 : Int32) (u_34 : Int32) (u_35 : Int32) (u_36 : Int32) (u_37 : Int32) (u_38 : Int64) =>
   (1, u_33, u_34, u_35, u_36, u_37, h0_fault, h0_place, u_38)
  )
theorem y_X12_readFirst_f_s (h0_size : Int32) (h0_limit : Int32) (h0_to : Int32) (h0_from : Int32) (h0_kind : Int32) (h0_number : Int32) (h0_sign : Int32) (h0_fault : Int32) (h0_place : Int32) (h0_word : Int64) (F_h0_read : Nat → Int32) (F_h0_tape : Nat → Int32)  : y_X12_readFirst_f h0_size h0_limit h0_to h0_from h0_kind h0_number h0_sign h0_fault h0_place h0_word F_h0_read F_h0_tape = (
  lt1 (F_h0_read (1 : Int32).toNatClampNeg) fun (x_27 : Int32) =>
  if (x_27 : Int32) = 4 then (
   lt2 (y_X12_bad 4 h0_kind) fun (r_48 : Int32) (u_50 : Int32) =>
   (0, h0_to, h0_from, h0_kind, h0_number, h0_sign, u_50, h0_from, h0_word)
  ) else (
   lt6 (y_X12_go h0_size h0_limit h0_to h0_number h0_sign h0_word F_h0_tape) fun (u_33 : Int32) (u_34 : Int32) (u_35 : Int32) (u_36 : Int32) (u_37 : Int32) (u_38 : Int64) =>
   (1, u_33, u_34, u_35, u_36, u_37, h0_fault, h0_place, u_38)
  )) := rfl
def y_X12_readFirst_c (h0_size : Int32) (h0_limit : Int32) (h0_to : Int32) (h0_from : Int32) (h0_kind : Int32) (h0_number : Int32) (h0_sign : Int32) (h0_fault : Int32) (h0_place : Int32) (h0_word : Int64) (F_h0_read : Nat → Int32) (F_h0_tape : Nat → Int32)  : Int32 × Int32 × Int32 × Int32 × Int32 × Int32 × Int32 × Int32 × Int64 :=
  lt1 (F_h0_read (2 : Int32).toNatClampNeg) fun (x_27 : Int32) =>
  if (x_27 : Int32) = 5 then (
   lt2 (y_X12_bad 4 h0_kind) fun (r_48 : Int32) (u_50 : Int32) =>
   (0, h0_to, h0_from, h0_kind, h0_number, h0_sign, u_50, h0_from, h0_word)
  ) else (
   lt6 (y_X12_go h0_size h0_limit h0_to h0_number h0_sign h0_word F_h0_tape) fun (u_33 : Int32) (u_34 : Int32) (u_35 : Int32) (u_36 : Int32) (u_37 : Int32) (u_38 : Int64) =>
   (1, u_33, u_34, u_35, u_36, u_37, h0_fault, h0_place, u_38)
  )
theorem y_X12_readFirst_c_s (h0_size : Int32) (h0_limit : Int32) (h0_to : Int32) (h0_from : Int32) (h0_kind : Int32) (h0_number : Int32) (h0_sign : Int32) (h0_fault : Int32) (h0_place : Int32) (h0_word : Int64) (F_h0_read : Nat → Int32) (F_h0_tape : Nat → Int32)  : y_X12_readFirst_c h0_size h0_limit h0_to h0_from h0_kind h0_number h0_sign h0_fault h0_place h0_word F_h0_read F_h0_tape = (
  lt1 (F_h0_read (2 : Int32).toNatClampNeg) fun (x_27 : Int32) =>
  if (x_27 : Int32) = 5 then (
   lt2 (y_X12_bad 4 h0_kind) fun (r_48 : Int32) (u_50 : Int32) =>
   (0, h0_to, h0_from, h0_kind, h0_number, h0_sign, u_50, h0_from, h0_word)
  ) else (
   lt6 (y_X12_go h0_size h0_limit h0_to h0_number h0_sign h0_word F_h0_tape) fun (u_33 : Int32) (u_34 : Int32) (u_35 : Int32) (u_36 : Int32) (u_37 : Int32) (u_38 : Int64) =>
   (1, u_33, u_34, u_35, u_36, u_37, h0_fault, h0_place, u_38)
  )) := rfl
def y_X12_isName_12 (h0_word : Int64) : Nat → Int32 → (Int32)
 | 0, _ => 0
 | n12 + 1, y12_0 =>
  if (25 : Int32) < y12_0 then (
   1
  ) else (
   lt1 (y_X12_wordOf y12_0) fun (r_229 : Int64) =>
   lt1 (lg_cmp (h0_word : Int64) r_229) fun (x_233 : Int32) =>
   if (x_233 : Int32) = 0 then (
    0
   ) else (
    lt1 (y12_0 + 1) fun (x_236 : Int32) =>
    y_X12_isName_12 h0_word n12 x_236
   )
  )
theorem y_X12_isName_12_s (h0_word : Int64) (n12 : Nat) (y12_0 : Int32) : y_X12_isName_12 h0_word (n12 + 1) y12_0 = (
  if (25 : Int32) < y12_0 then (
   1
  ) else (
   lt1 (y_X12_wordOf y12_0) fun (r_229 : Int64) =>
   lt1 (lg_cmp (h0_word : Int64) r_229) fun (x_233 : Int32) =>
   if (x_233 : Int32) = 0 then (
    0
   ) else (
    lt1 (y12_0 + 1) fun (x_236 : Int32) =>
    y_X12_isName_12 h0_word n12 x_236
   )
  )) := rfl
def y_X12_isName (h0_kind : Int32) (h0_word : Int64)  : Int32 :=
  if (h0_kind : Int32) = 2 then (
   y_X12_isName_12 h0_word 27 0
  ) else (
   0
  )
theorem y_X12_isName_s (h0_kind : Int32) (h0_word : Int64)  : y_X12_isName h0_kind h0_word = (
  if (h0_kind : Int32) = 2 then (
   y_X12_isName_12 h0_word 27 0
  ) else (
   0
  )) := rfl
def y_X12_findIn_0_3 (a3 : Int32) (a4 : Int64) (F_r1 : Nat → Int64) : Nat → Int32 → (Int32)
 | 0, _ => 0
 | n3 + 1, y3_0 =>
  if (a3 : Int32) ≤ y3_0 then (
   (-1)
  ) else (
   lt1 ((0 : Int32) + y3_0) fun (x_81 : Int32) =>
   lt1 (F_r1 (x_81 : Int32).toNatClampNeg) fun (x_84 : Int64) =>
   lt1 (lg_cmp (x_84 : Int64) a4) fun (x_85 : Int32) =>
   if (x_85 : Int32) = 0 then (
    y3_0
   ) else (
    lt1 (y3_0 + 1) fun (x_88 : Int32) =>
    y_X12_findIn_0_3 a3 a4 F_r1 n3 x_88
   )
  )
theorem y_X12_findIn_0_3_s (a3 : Int32) (a4 : Int64) (F_r1 : Nat → Int64) (n3 : Nat) (y3_0 : Int32) : y_X12_findIn_0_3 a3 a4 F_r1 (n3 + 1) y3_0 = (
  if (a3 : Int32) ≤ y3_0 then (
   (-1)
  ) else (
   lt1 ((0 : Int32) + y3_0) fun (x_81 : Int32) =>
   lt1 (F_r1 (x_81 : Int32).toNatClampNeg) fun (x_84 : Int64) =>
   lt1 (lg_cmp (x_84 : Int64) a4) fun (x_85 : Int32) =>
   if (x_85 : Int32) = 0 then (
    y3_0
   ) else (
    lt1 (y3_0 + 1) fun (x_88 : Int32) =>
    y_X12_findIn_0_3 a3 a4 F_r1 n3 x_88
   )
  )) := rfl
def y_X12_findIn_0 (a3 : Int32) (a4 : Int64) (F_r1 : Nat → Int64)  : Int32 :=
  y_X12_findIn_0_3 a3 a4 F_r1 11 0
theorem y_X12_findIn_0_s (a3 : Int32) (a4 : Int64) (F_r1 : Nat → Int64)  : y_X12_findIn_0 a3 a4 F_r1 = (
  y_X12_findIn_0_3 a3 a4 F_r1 11 0) := rfl
def y_X12_findIn_10_3 (a3 : Int32) (a4 : Int64) (F_r1 : Nat → Int64) : Nat → Int32 → (Int32)
 | 0, _ => 0
 | n3 + 1, y3_0 =>
  if (a3 : Int32) ≤ y3_0 then (
   (-1)
  ) else (
   lt1 ((10 : Int32) + y3_0) fun (x_81 : Int32) =>
   lt1 (F_r1 (x_81 : Int32).toNatClampNeg) fun (x_84 : Int64) =>
   lt1 (lg_cmp (x_84 : Int64) a4) fun (x_85 : Int32) =>
   if (x_85 : Int32) = 0 then (
    y3_0
   ) else (
    lt1 (y3_0 + 1) fun (x_88 : Int32) =>
    y_X12_findIn_10_3 a3 a4 F_r1 n3 x_88
   )
  )
theorem y_X12_findIn_10_3_s (a3 : Int32) (a4 : Int64) (F_r1 : Nat → Int64) (n3 : Nat) (y3_0 : Int32) : y_X12_findIn_10_3 a3 a4 F_r1 (n3 + 1) y3_0 = (
  if (a3 : Int32) ≤ y3_0 then (
   (-1)
  ) else (
   lt1 ((10 : Int32) + y3_0) fun (x_81 : Int32) =>
   lt1 (F_r1 (x_81 : Int32).toNatClampNeg) fun (x_84 : Int64) =>
   lt1 (lg_cmp (x_84 : Int64) a4) fun (x_85 : Int32) =>
   if (x_85 : Int32) = 0 then (
    y3_0
   ) else (
    lt1 (y3_0 + 1) fun (x_88 : Int32) =>
    y_X12_findIn_10_3 a3 a4 F_r1 n3 x_88
   )
  )) := rfl
def y_X12_findIn_10 (a3 : Int32) (a4 : Int64) (F_r1 : Nat → Int64)  : Int32 :=
  y_X12_findIn_10_3 a3 a4 F_r1 5 0
theorem y_X12_findIn_10_s (a3 : Int32) (a4 : Int64) (F_r1 : Nat → Int64)  : y_X12_findIn_10 a3 a4 F_r1 = (
  y_X12_findIn_10_3 a3 a4 F_r1 5 0) := rfl
def y_X12_findIn_14_3 (a3 : Int32) (a4 : Int64) (F_r1 : Nat → Int64) : Nat → Int32 → (Int32)
 | 0, _ => 0
 | n3 + 1, y3_0 =>
  if (a3 : Int32) ≤ y3_0 then (
   (-1)
  ) else (
   lt1 ((14 : Int32) + y3_0) fun (x_81 : Int32) =>
   lt1 (F_r1 (x_81 : Int32).toNatClampNeg) fun (x_84 : Int64) =>
   lt1 (lg_cmp (x_84 : Int64) a4) fun (x_85 : Int32) =>
   if (x_85 : Int32) = 0 then (
    y3_0
   ) else (
    lt1 (y3_0 + 1) fun (x_88 : Int32) =>
    y_X12_findIn_14_3 a3 a4 F_r1 n3 x_88
   )
  )
theorem y_X12_findIn_14_3_s (a3 : Int32) (a4 : Int64) (F_r1 : Nat → Int64) (n3 : Nat) (y3_0 : Int32) : y_X12_findIn_14_3 a3 a4 F_r1 (n3 + 1) y3_0 = (
  if (a3 : Int32) ≤ y3_0 then (
   (-1)
  ) else (
   lt1 ((14 : Int32) + y3_0) fun (x_81 : Int32) =>
   lt1 (F_r1 (x_81 : Int32).toNatClampNeg) fun (x_84 : Int64) =>
   lt1 (lg_cmp (x_84 : Int64) a4) fun (x_85 : Int32) =>
   if (x_85 : Int32) = 0 then (
    y3_0
   ) else (
    lt1 (y3_0 + 1) fun (x_88 : Int32) =>
    y_X12_findIn_14_3 a3 a4 F_r1 n3 x_88
   )
  )) := rfl
def y_X12_findIn_14 (a3 : Int32) (a4 : Int64) (F_r1 : Nat → Int64)  : Int32 :=
  y_X12_findIn_14_3 a3 a4 F_r1 6 0
theorem y_X12_findIn_14_s (a3 : Int32) (a4 : Int64) (F_r1 : Nat → Int64)  : y_X12_findIn_14 a3 a4 F_r1 = (
  y_X12_findIn_14_3 a3 a4 F_r1 6 0) := rfl
def y_X12_readNew_81 (h0_to : Int32) (h0_from : Int32) (h0_kind : Int32) (h0_number : Int32) (h0_sign : Int32) (h0_word : Int64) (F_h0_readName : Nat → Int64)  : Int32 × Int32 × Int32 × Int32 × Int32 × Int32 × Int32 × Int32 × Int64 × (Nat → Int64) :=
  lt2 (y_X12_bad 3 h0_kind) fun (r_67 : Int32) (u_69 : Int32) =>
  (0, h0_to, h0_from, h0_kind, h0_number, h0_sign, u_69, h0_from, h0_word, F_h0_readName)
theorem y_X12_readNew_81_s (h0_to : Int32) (h0_from : Int32) (h0_kind : Int32) (h0_number : Int32) (h0_sign : Int32) (h0_word : Int64) (F_h0_readName : Nat → Int64)  : y_X12_readNew_81 h0_to h0_from h0_kind h0_number h0_sign h0_word F_h0_readName = (
  lt2 (y_X12_bad 3 h0_kind) fun (r_67 : Int32) (u_69 : Int32) =>
  (0, h0_to, h0_from, h0_kind, h0_number, h0_sign, u_69, h0_from, h0_word, F_h0_readName)) := rfl
def y_X12_readNew (a1 : Int32) (h0_size : Int32) (h0_limit : Int32) (h0_to : Int32) (h0_from : Int32) (h0_kind : Int32) (h0_number : Int32) (h0_sign : Int32) (h0_fault : Int32) (h0_place : Int32) (h0_word : Int64) (F_h0_read : Nat → Int32) (F_h0_readName : Nat → Int64) (F_h0_tape : Nat → Int32)  : Int32 × Int32 × Int32 × Int32 × Int32 × Int32 × Int32 × Int32 × Int64 × (Nat → Int64) :=
  lt1 (y_X12_isName h0_kind h0_word) fun (r_72 : Int32) =>
  if (r_72 : Int32) = 0 then (
   lt2 (y_X12_bad 1 h0_kind) fun (r_79 : Int32) (u_81 : Int32) =>
   (0, h0_to, h0_from, h0_kind, h0_number, h0_sign, u_81, h0_from, h0_word, F_h0_readName)
  ) else (
   lt1 (F_h0_read (0 : Int32).toNatClampNeg) fun (x_84 : Int32) =>
   lt1 (y_X12_findIn_0 x_84 h0_word F_h0_readName) fun (r_86 : Int32) =>
   if (r_86 : Int32) = (-1) then (
    lt1 (F_h0_read (1 : Int32).toNatClampNeg) fun (x_95 : Int32) =>
    lt1 (y_X12_findIn_10 x_95 h0_word F_h0_readName) fun (r_97 : Int32) =>
    if (r_97 : Int32) = (-1) then (
     lt1 (F_h0_read (2 : Int32).toNatClampNeg) fun (x_106 : Int32) =>
     lt1 (y_X12_findIn_14 x_106 h0_word F_h0_readName) fun (r_108 : Int32) =>
     if (r_108 : Int32) = (-1) then (
      lt1 (vp_updL F_h0_readName (a1 : Int32).toNatClampNeg (h0_word : Int64)) fun (g_116 : Nat → Int64) =>
      lt6 (y_X12_go h0_size h0_limit h0_to h0_number h0_sign h0_word F_h0_tape) fun (u_119 : Int32) (u_120 : Int32) (u_121 : Int32) (u_122 : Int32) (u_123 : Int32) (u_124 : Int64) =>
      (1, u_119, u_120, u_121, u_122, u_123, h0_fault, h0_place, u_124, g_116)
     ) else (
      y_X12_readNew_81 h0_to h0_from h0_kind h0_number h0_sign h0_word F_h0_readName
     )
    ) else (
     y_X12_readNew_81 h0_to h0_from h0_kind h0_number h0_sign h0_word F_h0_readName
    )
   ) else (
    y_X12_readNew_81 h0_to h0_from h0_kind h0_number h0_sign h0_word F_h0_readName
   )
  )
theorem y_X12_readNew_s (a1 : Int32) (h0_size : Int32) (h0_limit : Int32) (h0_to : Int32) (h0_from : Int32) (h0_kind : Int32) (h0_number : Int32) (h0_sign : Int32) (h0_fault : Int32) (h0_place : Int32) (h0_word : Int64) (F_h0_read : Nat → Int32) (F_h0_readName : Nat → Int64) (F_h0_tape : Nat → Int32)  : y_X12_readNew a1 h0_size h0_limit h0_to h0_from h0_kind h0_number h0_sign h0_fault h0_place h0_word F_h0_read F_h0_readName F_h0_tape = (
  lt1 (y_X12_isName h0_kind h0_word) fun (r_72 : Int32) =>
  if (r_72 : Int32) = 0 then (
   lt2 (y_X12_bad 1 h0_kind) fun (r_79 : Int32) (u_81 : Int32) =>
   (0, h0_to, h0_from, h0_kind, h0_number, h0_sign, u_81, h0_from, h0_word, F_h0_readName)
  ) else (
   lt1 (F_h0_read (0 : Int32).toNatClampNeg) fun (x_84 : Int32) =>
   lt1 (y_X12_findIn_0 x_84 h0_word F_h0_readName) fun (r_86 : Int32) =>
   if (r_86 : Int32) = (-1) then (
    lt1 (F_h0_read (1 : Int32).toNatClampNeg) fun (x_95 : Int32) =>
    lt1 (y_X12_findIn_10 x_95 h0_word F_h0_readName) fun (r_97 : Int32) =>
    if (r_97 : Int32) = (-1) then (
     lt1 (F_h0_read (2 : Int32).toNatClampNeg) fun (x_106 : Int32) =>
     lt1 (y_X12_findIn_14 x_106 h0_word F_h0_readName) fun (r_108 : Int32) =>
     if (r_108 : Int32) = (-1) then (
      lt1 (vp_updL F_h0_readName (a1 : Int32).toNatClampNeg (h0_word : Int64)) fun (g_116 : Nat → Int64) =>
      lt6 (y_X12_go h0_size h0_limit h0_to h0_number h0_sign h0_word F_h0_tape) fun (u_119 : Int32) (u_120 : Int32) (u_121 : Int32) (u_122 : Int32) (u_123 : Int32) (u_124 : Int64) =>
      (1, u_119, u_120, u_121, u_122, u_123, h0_fault, h0_place, u_124, g_116)
     ) else (
      y_X12_readNew_81 h0_to h0_from h0_kind h0_number h0_sign h0_word F_h0_readName
     )
    ) else (
     y_X12_readNew_81 h0_to h0_from h0_kind h0_number h0_sign h0_word F_h0_readName
    )
   ) else (
    y_X12_readNew_81 h0_to h0_from h0_kind h0_number h0_sign h0_word F_h0_readName
   )
  )) := rfl
def y_X12_isIn (a1 : Int32) (a2 : Int32) (a3 : Int32)  : Int32 :=
  if (a1 : Int32) < a2 then (
   0
  ) else (
   if (a3 : Int32) < a1 then (
    0
   ) else (
    1
   )
  )
theorem y_X12_isIn_s (a1 : Int32) (a2 : Int32) (a3 : Int32)  : y_X12_isIn a1 a2 a3 = (
  if (a1 : Int32) < a2 then (
   0
  ) else (
   if (a3 : Int32) < a1 then (
    0
   ) else (
    1
   )
  )) := rfl
def y_X12_readNumber (a1 : Int32) (a2 : Int32) (h0_size : Int32) (h0_limit : Int32) (h0_to : Int32) (h0_from : Int32) (h0_kind : Int32) (h0_number : Int32) (h0_sign : Int32) (h0_fault : Int32) (h0_place : Int32) (h0_word : Int64) (h0_told : Int32) (F_h0_tape : Nat → Int32)  : Int32 × Int32 × Int32 × Int32 × Int32 × Int32 × Int32 × Int32 × Int64 × Int32 :=
  if (h0_kind : Int32) = 3 then (
   lt1 (y_X12_isIn h0_number a1 a2) fun (r_43 : Int32) =>
   if (r_43 : Int32) = 0 then (
    lt2 (y_X12_bad 2 h0_kind) fun (r_51 : Int32) (u_53 : Int32) =>
    (0, h0_to, h0_from, h0_kind, h0_number, h0_sign, u_53, h0_from, h0_word, h0_told)
   ) else (
    lt6 (y_X12_go h0_size h0_limit h0_to h0_number h0_sign h0_word F_h0_tape) fun (u_58 : Int32) (u_59 : Int32) (u_60 : Int32) (u_61 : Int32) (u_62 : Int32) (u_63 : Int64) =>
    (1, u_58, u_59, u_60, u_61, u_62, h0_fault, h0_place, u_63, h0_number)
   )
  ) else (
   lt2 (y_X12_bad 1 h0_kind) fun (r_70 : Int32) (u_72 : Int32) =>
   (0, h0_to, h0_from, h0_kind, h0_number, h0_sign, u_72, h0_from, h0_word, h0_told)
  )
theorem y_X12_readNumber_s (a1 : Int32) (a2 : Int32) (h0_size : Int32) (h0_limit : Int32) (h0_to : Int32) (h0_from : Int32) (h0_kind : Int32) (h0_number : Int32) (h0_sign : Int32) (h0_fault : Int32) (h0_place : Int32) (h0_word : Int64) (h0_told : Int32) (F_h0_tape : Nat → Int32)  : y_X12_readNumber a1 a2 h0_size h0_limit h0_to h0_from h0_kind h0_number h0_sign h0_fault h0_place h0_word h0_told F_h0_tape = (
  if (h0_kind : Int32) = 3 then (
   lt1 (y_X12_isIn h0_number a1 a2) fun (r_43 : Int32) =>
   if (r_43 : Int32) = 0 then (
    lt2 (y_X12_bad 2 h0_kind) fun (r_51 : Int32) (u_53 : Int32) =>
    (0, h0_to, h0_from, h0_kind, h0_number, h0_sign, u_53, h0_from, h0_word, h0_told)
   ) else (
    lt6 (y_X12_go h0_size h0_limit h0_to h0_number h0_sign h0_word F_h0_tape) fun (u_58 : Int32) (u_59 : Int32) (u_60 : Int32) (u_61 : Int32) (u_62 : Int32) (u_63 : Int64) =>
    (1, u_58, u_59, u_60, u_61, u_62, h0_fault, h0_place, u_63, h0_number)
   )
  ) else (
   lt2 (y_X12_bad 1 h0_kind) fun (r_70 : Int32) (u_72 : Int32) =>
   (0, h0_to, h0_from, h0_kind, h0_number, h0_sign, u_72, h0_from, h0_word, h0_told)
  )) := rfl
def y_X12_put_on (a1 : Int32) (h0_told : Int32) (F_h0_read : Nat → Int32)  : Int32 × (Nat → Int32) :=
  lt1 (upd F_h0_read (a1 : Int32).toNatClampNeg (h0_told : Int32)) fun (g_9 : Nat → Int32) =>
  (1, g_9)
theorem y_X12_put_on_s (a1 : Int32) (h0_told : Int32) (F_h0_read : Nat → Int32)  : y_X12_put_on a1 h0_told F_h0_read = (
  lt1 (upd F_h0_read (a1 : Int32).toNatClampNeg (h0_told : Int32)) fun (g_9 : Nat → Int32) =>
  (1, g_9)) := rfl
def y_X12_put_1 (a1 : Int32) (a2 : Int32) (h0_told : Int32) (F_h0_read : Nat → Int32)  : Int32 × (Nat → Int32) :=
  if (a2 : Int32) = 0 then (
   (a2, F_h0_read)
  ) else (
   lt1 (upd F_h0_read (a1 : Int32).toNatClampNeg (h0_told : Int32)) fun (g_19 : Nat → Int32) =>
   (a2, g_19)
  )
theorem y_X12_put_1_s (a1 : Int32) (a2 : Int32) (h0_told : Int32) (F_h0_read : Nat → Int32)  : y_X12_put_1 a1 a2 h0_told F_h0_read = (
  if (a2 : Int32) = 0 then (
   (a2, F_h0_read)
  ) else (
   lt1 (upd F_h0_read (a1 : Int32).toNatClampNeg (h0_told : Int32)) fun (g_19 : Nat → Int32) =>
   (a2, g_19)
  )) := rfl
def y_X12_put_2 (a1 : Int32) (a2 : Int32) (h0_told : Int32) (F_h0_read : Nat → Int32)  : Int32 × (Nat → Int32) :=
  if (a2 : Int32) = 0 then (
   (a2, F_h0_read)
  ) else (
   lt1 (upd F_h0_read (a1 : Int32).toNatClampNeg (h0_told : Int32)) fun (g_19 : Nat → Int32) =>
   (a2, g_19)
  )
theorem y_X12_put_2_s (a1 : Int32) (a2 : Int32) (h0_told : Int32) (F_h0_read : Nat → Int32)  : y_X12_put_2 a1 a2 h0_told F_h0_read = (
  if (a2 : Int32) = 0 then (
   (a2, F_h0_read)
  ) else (
   lt1 (upd F_h0_read (a1 : Int32).toNatClampNeg (h0_told : Int32)) fun (g_19 : Nat → Int32) =>
   (a2, g_19)
  )) := rfl
def y_X12_put_3 (a1 : Int32) (a2 : Int32) (h0_told : Int32) (F_h0_read : Nat → Int32)  : Int32 × (Nat → Int32) :=
  if (a2 : Int32) = 0 then (
   (a2, F_h0_read)
  ) else (
   lt1 (upd F_h0_read (a1 : Int32).toNatClampNeg (h0_told : Int32)) fun (g_18 : Nat → Int32) =>
   (a2, g_18)
  )
theorem y_X12_put_3_s (a1 : Int32) (a2 : Int32) (h0_told : Int32) (F_h0_read : Nat → Int32)  : y_X12_put_3 a1 a2 h0_told F_h0_read = (
  if (a2 : Int32) = 0 then (
   (a2, F_h0_read)
  ) else (
   lt1 (upd F_h0_read (a1 : Int32).toNatClampNeg (h0_told : Int32)) fun (g_18 : Nat → Int32) =>
   (a2, g_18)
  )) := rfl
def y_X12_put_4 (a1 : Int32) (a2 : Int32) (h0_told : Int32) (F_h0_read : Nat → Int32)  : Int32 × (Nat → Int32) :=
  if (a2 : Int32) = 0 then (
   (a2, F_h0_read)
  ) else (
   lt1 (upd F_h0_read (a1 : Int32).toNatClampNeg (h0_told : Int32)) fun (g_19 : Nat → Int32) =>
   (a2, g_19)
  )
theorem y_X12_put_4_s (a1 : Int32) (a2 : Int32) (h0_told : Int32) (F_h0_read : Nat → Int32)  : y_X12_put_4 a1 a2 h0_told F_h0_read = (
  if (a2 : Int32) = 0 then (
   (a2, F_h0_read)
  ) else (
   lt1 (upd F_h0_read (a1 : Int32).toNatClampNeg (h0_told : Int32)) fun (g_19 : Nat → Int32) =>
   (a2, g_19)
  )) := rfl
def y_X12_put_0   : Int32 :=
  0
theorem y_X12_put_0_s   : y_X12_put_0 = (
  0) := rfl
def y_X12_readJuror_107  (y107_0 : Int32) (y107_1 : Int32) (y107_2 : Int32) (y107_3 : Int32) (y107_4 : Int32) (y107_5 : Int32) (y107_6 : Int32) (y107_7 : Int64) (y107_8 : Int32) (f107_9 : Nat → Int32) (f107_17 : Nat → Int64) : Int32 × Int32 × Int32 × Int32 × Int32 × Int32 × Int32 × Int32 × Int64 × Int32 × (Nat → Int32) × (Nat → Int64) :=
  lt1 (f107_9 (0 : Int32).toNatClampNeg) fun (x_442 : Int32) =>
  lt1 ((x_442 : Int32) + 1) fun (x_444 : Int32) =>
  lt1 (upd f107_9 (0 : Int32).toNatClampNeg (x_444 : Int32)) fun (g_447 : Nat → Int32) =>
  (1, y107_0, y107_1, y107_2, y107_3, y107_4, y107_5, y107_6, y107_7, y107_8, g_447, f107_17)
theorem y_X12_readJuror_107_s  (y107_0 : Int32) (y107_1 : Int32) (y107_2 : Int32) (y107_3 : Int32) (y107_4 : Int32) (y107_5 : Int32) (y107_6 : Int32) (y107_7 : Int64) (y107_8 : Int32) (f107_9 : Nat → Int32) (f107_17 : Nat → Int64) : y_X12_readJuror_107 y107_0 y107_1 y107_2 y107_3 y107_4 y107_5 y107_6 y107_7 y107_8 f107_9 f107_17 = (
  lt1 (f107_9 (0 : Int32).toNatClampNeg) fun (x_442 : Int32) =>
  lt1 ((x_442 : Int32) + 1) fun (x_444 : Int32) =>
  lt1 (upd f107_9 (0 : Int32).toNatClampNeg (x_444 : Int32)) fun (g_447 : Nat → Int32) =>
  (1, y107_0, y107_1, y107_2, y107_3, y107_4, y107_5, y107_6, y107_7, y107_8, g_447, f107_17)) := rfl
def y_X12_readJuror (h0_size : Int32) (h0_limit : Int32) (h0_to : Int32) (h0_from : Int32) (h0_kind : Int32) (h0_number : Int32) (h0_sign : Int32) (h0_fault : Int32) (h0_place : Int32) (h0_word : Int64) (h0_told : Int32) (F_h0_read : Nat → Int32) (F_h0_tape : Nat → Int32) (F_h0_readName : Nat → Int64)  : Int32 × Int32 × Int32 × Int32 × Int32 × Int32 × Int32 × Int32 × Int64 × Int32 × (Nat → Int32) × (Nat → Int64) :=
  lt9 (y_X12_readFirst_j h0_size h0_limit h0_to h0_from h0_kind h0_number h0_sign h0_fault h0_place h0_word F_h0_read F_h0_tape) fun (r_456 : Int32) (u_458 : Int32) (u_459 : Int32) (u_460 : Int32) (u_461 : Int32) (u_462 : Int32) (u_463 : Int32) (u_464 : Int32) (u_465 : Int64) =>
  if (r_456 : Int32) = 1 then (
   lt1 (F_h0_read (0 : Int32).toNatClampNeg) fun (x_492 : Int32) =>
   lt10 (y_X12_readNew x_492 h0_size h0_limit u_458 u_459 u_460 u_461 u_462 u_463 u_464 u_465 F_h0_read F_h0_readName F_h0_tape) fun (r_494 : Int32) (u_496 : Int32) (u_497 : Int32) (u_498 : Int32) (u_499 : Int32) (u_500 : Int32) (u_501 : Int32) (u_502 : Int32) (u_503 : Int64) (u_504 : Nat → Int64) =>
   if (r_494 : Int32) = 0 then (
    (0, u_496, u_497, u_498, u_499, u_500, u_501, u_502, u_503, h0_told, F_h0_read, u_504)
   ) else (
    lt1 ((5 : Int32) + x_492) fun (x_531 : Int32) =>
    lt10 (y_X12_readNumber 1 60 h0_size h0_limit u_496 u_497 u_498 u_499 u_500 u_501 u_502 u_503 h0_told F_h0_tape) fun (r_534 : Int32) (u_536 : Int32) (u_537 : Int32) (u_538 : Int32) (u_539 : Int32) (u_540 : Int32) (u_541 : Int32) (u_542 : Int32) (u_543 : Int64) (u_544 : Int32) =>
    if (r_534 : Int32) = 0 then (
     lt2 (y_X12_put_1 x_531 0 u_544 F_h0_read) fun (r_575 : Int32) (u_577 : Nat → Int32) =>
     (0, u_536, u_537, u_538, u_539, u_540, u_541, u_542, u_543, u_544, u_577, u_504)
    ) else (
     lt2 (y_X12_put_1 x_531 1 u_544 F_h0_read) fun (r_599 : Int32) (u_601 : Nat → Int32) =>
     lt1 ((15 : Int32) + x_492) fun (x_621 : Int32) =>
     lt10 (y_X12_readNumber 1 20 h0_size h0_limit u_536 u_537 u_538 u_539 u_540 u_541 u_542 u_543 u_544 F_h0_tape) fun (r_624 : Int32) (u_626 : Int32) (u_627 : Int32) (u_628 : Int32) (u_629 : Int32) (u_630 : Int32) (u_631 : Int32) (u_632 : Int32) (u_633 : Int64) (u_634 : Int32) =>
     if (r_624 : Int32) = 0 then (
      lt2 (y_X12_put_1 x_621 0 u_634 u_601) fun (r_665 : Int32) (u_667 : Nat → Int32) =>
      (0, u_626, u_627, u_628, u_629, u_630, u_631, u_632, u_633, u_634, u_667, u_504)
     ) else (
      lt2 (y_X12_put_1 x_621 1 u_634 u_601) fun (r_694 : Int32) (u_696 : Nat → Int32) =>
      lt1 ((25 : Int32) + x_492) fun (x_721 : Int32) =>
      lt10 (y_X12_readNumber 0 12 h0_size h0_limit u_626 u_627 u_628 u_629 u_630 u_631 u_632 u_633 u_634 F_h0_tape) fun (r_724 : Int32) (u_726 : Int32) (u_727 : Int32) (u_728 : Int32) (u_729 : Int32) (u_730 : Int32) (u_731 : Int32) (u_732 : Int32) (u_733 : Int64) (u_734 : Int32) =>
      if (r_724 : Int32) = 0 then (
       lt2 (y_X12_put_1 x_721 0 u_734 u_696) fun (r_765 : Int32) (u_767 : Nat → Int32) =>
       (0, u_726, u_727, u_728, u_729, u_730, u_731, u_732, u_733, u_734, u_767, u_504)
      ) else (
       lt2 (y_X12_put_1 x_721 1 u_734 u_696) fun (r_799 : Int32) (u_801 : Nat → Int32) =>
       lt1 (y_X12_isWord_1 u_728 u_733) fun (r_831 : Int32) =>
       if (r_831 : Int32) = 0 then (
        y_X12_readJuror_107 u_726 u_727 u_728 u_729 u_730 u_731 u_732 u_733 u_734 u_801 u_504
       ) else (
        lt1 (u_801 (35 : Int32).toNatClampNeg) fun (x_838 : Int32) =>
        lt1 ((1 : Int32) <<< (x_492 &&& 31)) fun (x_840 : Int32) =>
        lt1 ((x_838 : Int32) ||| x_840) fun (x_842 : Int32) =>
        lt1 (upd u_801 (35 : Int32).toNatClampNeg (x_842 : Int32)) fun (g_844 : Nat → Int32) =>
        lt6 (y_X12_go h0_size h0_limit u_726 u_729 u_730 u_733 F_h0_tape) fun (u_870 : Int32) (u_871 : Int32) (u_872 : Int32) (u_873 : Int32) (u_874 : Int32) (u_875 : Int64) =>
        y_X12_readJuror_107 u_870 u_871 u_872 u_873 u_874 u_731 u_732 u_875 u_734 g_844 u_504
       )
      )
     )
    )
   )
  ) else (
   (0, u_458, u_459, u_460, u_461, u_462, u_463, u_464, u_465, h0_told, F_h0_read, F_h0_readName)
  )
theorem y_X12_readJuror_s (h0_size : Int32) (h0_limit : Int32) (h0_to : Int32) (h0_from : Int32) (h0_kind : Int32) (h0_number : Int32) (h0_sign : Int32) (h0_fault : Int32) (h0_place : Int32) (h0_word : Int64) (h0_told : Int32) (F_h0_read : Nat → Int32) (F_h0_tape : Nat → Int32) (F_h0_readName : Nat → Int64)  : y_X12_readJuror h0_size h0_limit h0_to h0_from h0_kind h0_number h0_sign h0_fault h0_place h0_word h0_told F_h0_read F_h0_tape F_h0_readName = (
  lt9 (y_X12_readFirst_j h0_size h0_limit h0_to h0_from h0_kind h0_number h0_sign h0_fault h0_place h0_word F_h0_read F_h0_tape) fun (r_456 : Int32) (u_458 : Int32) (u_459 : Int32) (u_460 : Int32) (u_461 : Int32) (u_462 : Int32) (u_463 : Int32) (u_464 : Int32) (u_465 : Int64) =>
  if (r_456 : Int32) = 1 then (
   lt1 (F_h0_read (0 : Int32).toNatClampNeg) fun (x_492 : Int32) =>
   lt10 (y_X12_readNew x_492 h0_size h0_limit u_458 u_459 u_460 u_461 u_462 u_463 u_464 u_465 F_h0_read F_h0_readName F_h0_tape) fun (r_494 : Int32) (u_496 : Int32) (u_497 : Int32) (u_498 : Int32) (u_499 : Int32) (u_500 : Int32) (u_501 : Int32) (u_502 : Int32) (u_503 : Int64) (u_504 : Nat → Int64) =>
   if (r_494 : Int32) = 0 then (
    (0, u_496, u_497, u_498, u_499, u_500, u_501, u_502, u_503, h0_told, F_h0_read, u_504)
   ) else (
    lt1 ((5 : Int32) + x_492) fun (x_531 : Int32) =>
    lt10 (y_X12_readNumber 1 60 h0_size h0_limit u_496 u_497 u_498 u_499 u_500 u_501 u_502 u_503 h0_told F_h0_tape) fun (r_534 : Int32) (u_536 : Int32) (u_537 : Int32) (u_538 : Int32) (u_539 : Int32) (u_540 : Int32) (u_541 : Int32) (u_542 : Int32) (u_543 : Int64) (u_544 : Int32) =>
    if (r_534 : Int32) = 0 then (
     lt2 (y_X12_put_1 x_531 0 u_544 F_h0_read) fun (r_575 : Int32) (u_577 : Nat → Int32) =>
     (0, u_536, u_537, u_538, u_539, u_540, u_541, u_542, u_543, u_544, u_577, u_504)
    ) else (
     lt2 (y_X12_put_1 x_531 1 u_544 F_h0_read) fun (r_599 : Int32) (u_601 : Nat → Int32) =>
     lt1 ((15 : Int32) + x_492) fun (x_621 : Int32) =>
     lt10 (y_X12_readNumber 1 20 h0_size h0_limit u_536 u_537 u_538 u_539 u_540 u_541 u_542 u_543 u_544 F_h0_tape) fun (r_624 : Int32) (u_626 : Int32) (u_627 : Int32) (u_628 : Int32) (u_629 : Int32) (u_630 : Int32) (u_631 : Int32) (u_632 : Int32) (u_633 : Int64) (u_634 : Int32) =>
     if (r_624 : Int32) = 0 then (
      lt2 (y_X12_put_1 x_621 0 u_634 u_601) fun (r_665 : Int32) (u_667 : Nat → Int32) =>
      (0, u_626, u_627, u_628, u_629, u_630, u_631, u_632, u_633, u_634, u_667, u_504)
     ) else (
      lt2 (y_X12_put_1 x_621 1 u_634 u_601) fun (r_694 : Int32) (u_696 : Nat → Int32) =>
      lt1 ((25 : Int32) + x_492) fun (x_721 : Int32) =>
      lt10 (y_X12_readNumber 0 12 h0_size h0_limit u_626 u_627 u_628 u_629 u_630 u_631 u_632 u_633 u_634 F_h0_tape) fun (r_724 : Int32) (u_726 : Int32) (u_727 : Int32) (u_728 : Int32) (u_729 : Int32) (u_730 : Int32) (u_731 : Int32) (u_732 : Int32) (u_733 : Int64) (u_734 : Int32) =>
      if (r_724 : Int32) = 0 then (
       lt2 (y_X12_put_1 x_721 0 u_734 u_696) fun (r_765 : Int32) (u_767 : Nat → Int32) =>
       (0, u_726, u_727, u_728, u_729, u_730, u_731, u_732, u_733, u_734, u_767, u_504)
      ) else (
       lt2 (y_X12_put_1 x_721 1 u_734 u_696) fun (r_799 : Int32) (u_801 : Nat → Int32) =>
       lt1 (y_X12_isWord_1 u_728 u_733) fun (r_831 : Int32) =>
       if (r_831 : Int32) = 0 then (
        y_X12_readJuror_107 u_726 u_727 u_728 u_729 u_730 u_731 u_732 u_733 u_734 u_801 u_504
       ) else (
        lt1 (u_801 (35 : Int32).toNatClampNeg) fun (x_838 : Int32) =>
        lt1 ((1 : Int32) <<< (x_492 &&& 31)) fun (x_840 : Int32) =>
        lt1 ((x_838 : Int32) ||| x_840) fun (x_842 : Int32) =>
        lt1 (upd u_801 (35 : Int32).toNatClampNeg (x_842 : Int32)) fun (g_844 : Nat → Int32) =>
        lt6 (y_X12_go h0_size h0_limit u_726 u_729 u_730 u_733 F_h0_tape) fun (u_870 : Int32) (u_871 : Int32) (u_872 : Int32) (u_873 : Int32) (u_874 : Int32) (u_875 : Int64) =>
        y_X12_readJuror_107 u_870 u_871 u_872 u_873 u_874 u_731 u_732 u_875 u_734 g_844 u_504
       )
      )
     )
    )
   )
  ) else (
   (0, u_458, u_459, u_460, u_461, u_462, u_463, u_464, u_465, h0_told, F_h0_read, F_h0_readName)
  )) := rfl
def y_X12_readFloor (h0_size : Int32) (h0_limit : Int32) (h0_to : Int32) (h0_from : Int32) (h0_kind : Int32) (h0_number : Int32) (h0_sign : Int32) (h0_fault : Int32) (h0_place : Int32) (h0_word : Int64) (h0_told : Int32) (F_h0_read : Nat → Int32) (F_h0_tape : Nat → Int32) (F_h0_readName : Nat → Int64)  : Int32 × Int32 × Int32 × Int32 × Int32 × Int32 × Int32 × Int32 × Int64 × Int32 × (Nat → Int32) × (Nat → Int64) :=
  lt9 (y_X12_readFirst_f h0_size h0_limit h0_to h0_from h0_kind h0_number h0_sign h0_fault h0_place h0_word F_h0_read F_h0_tape) fun (r_294 : Int32) (u_296 : Int32) (u_297 : Int32) (u_298 : Int32) (u_299 : Int32) (u_300 : Int32) (u_301 : Int32) (u_302 : Int32) (u_303 : Int64) =>
  if (r_294 : Int32) = 1 then (
   lt1 (F_h0_read (1 : Int32).toNatClampNeg) fun (x_330 : Int32) =>
   lt1 ((10 : Int32) + x_330) fun (x_332 : Int32) =>
   lt10 (y_X12_readNew x_332 h0_size h0_limit u_296 u_297 u_298 u_299 u_300 u_301 u_302 u_303 F_h0_read F_h0_readName F_h0_tape) fun (r_335 : Int32) (u_337 : Int32) (u_338 : Int32) (u_339 : Int32) (u_340 : Int32) (u_341 : Int32) (u_342 : Int32) (u_343 : Int32) (u_344 : Int64) (u_345 : Nat → Int64) =>
   if (r_335 : Int32) = 0 then (
    (0, u_337, u_338, u_339, u_340, u_341, u_342, u_343, u_344, h0_told, F_h0_read, u_345)
   ) else (
    lt1 ((36 : Int32) + x_330) fun (x_372 : Int32) =>
    lt10 (y_X12_readNumber 0 20 h0_size h0_limit u_337 u_338 u_339 u_340 u_341 u_342 u_343 u_344 h0_told F_h0_tape) fun (r_375 : Int32) (u_377 : Int32) (u_378 : Int32) (u_379 : Int32) (u_380 : Int32) (u_381 : Int32) (u_382 : Int32) (u_383 : Int32) (u_384 : Int64) (u_385 : Int32) =>
    if (r_375 : Int32) = 0 then (
     lt2 (y_X12_put_2 x_372 0 u_385 F_h0_read) fun (r_416 : Int32) (u_418 : Nat → Int32) =>
     (0, u_377, u_378, u_379, u_380, u_381, u_382, u_383, u_384, u_385, u_418, u_345)
    ) else (
     lt2 (y_X12_put_2 x_372 1 u_385 F_h0_read) fun (r_440 : Int32) (u_442 : Nat → Int32) =>
     lt1 ((40 : Int32) + x_330) fun (x_462 : Int32) =>
     lt10 (y_X12_readNumber 0 20 h0_size h0_limit u_377 u_378 u_379 u_380 u_381 u_382 u_383 u_384 u_385 F_h0_tape) fun (r_465 : Int32) (u_467 : Int32) (u_468 : Int32) (u_469 : Int32) (u_470 : Int32) (u_471 : Int32) (u_472 : Int32) (u_473 : Int32) (u_474 : Int64) (u_475 : Int32) =>
     if (r_465 : Int32) = 0 then (
      lt2 (y_X12_put_2 x_462 0 u_475 u_442) fun (r_506 : Int32) (u_508 : Nat → Int32) =>
      (0, u_467, u_468, u_469, u_470, u_471, u_472, u_473, u_474, u_475, u_508, u_345)
     ) else (
      lt2 (y_X12_put_2 x_462 1 u_475 u_442) fun (r_535 : Int32) (u_537 : Nat → Int32) =>
      lt1 (u_537 (1 : Int32).toNatClampNeg) fun (x_562 : Int32) =>
      lt1 ((x_562 : Int32) + 1) fun (x_564 : Int32) =>
      lt1 (upd u_537 (1 : Int32).toNatClampNeg (x_564 : Int32)) fun (g_567 : Nat → Int32) =>
      (1, u_467, u_468, u_469, u_470, u_471, u_472, u_473, u_474, u_475, g_567, u_345)
     )
    )
   )
  ) else (
   (0, u_296, u_297, u_298, u_299, u_300, u_301, u_302, u_303, h0_told, F_h0_read, F_h0_readName)
  )
theorem y_X12_readFloor_s (h0_size : Int32) (h0_limit : Int32) (h0_to : Int32) (h0_from : Int32) (h0_kind : Int32) (h0_number : Int32) (h0_sign : Int32) (h0_fault : Int32) (h0_place : Int32) (h0_word : Int64) (h0_told : Int32) (F_h0_read : Nat → Int32) (F_h0_tape : Nat → Int32) (F_h0_readName : Nat → Int64)  : y_X12_readFloor h0_size h0_limit h0_to h0_from h0_kind h0_number h0_sign h0_fault h0_place h0_word h0_told F_h0_read F_h0_tape F_h0_readName = (
  lt9 (y_X12_readFirst_f h0_size h0_limit h0_to h0_from h0_kind h0_number h0_sign h0_fault h0_place h0_word F_h0_read F_h0_tape) fun (r_294 : Int32) (u_296 : Int32) (u_297 : Int32) (u_298 : Int32) (u_299 : Int32) (u_300 : Int32) (u_301 : Int32) (u_302 : Int32) (u_303 : Int64) =>
  if (r_294 : Int32) = 1 then (
   lt1 (F_h0_read (1 : Int32).toNatClampNeg) fun (x_330 : Int32) =>
   lt1 ((10 : Int32) + x_330) fun (x_332 : Int32) =>
   lt10 (y_X12_readNew x_332 h0_size h0_limit u_296 u_297 u_298 u_299 u_300 u_301 u_302 u_303 F_h0_read F_h0_readName F_h0_tape) fun (r_335 : Int32) (u_337 : Int32) (u_338 : Int32) (u_339 : Int32) (u_340 : Int32) (u_341 : Int32) (u_342 : Int32) (u_343 : Int32) (u_344 : Int64) (u_345 : Nat → Int64) =>
   if (r_335 : Int32) = 0 then (
    (0, u_337, u_338, u_339, u_340, u_341, u_342, u_343, u_344, h0_told, F_h0_read, u_345)
   ) else (
    lt1 ((36 : Int32) + x_330) fun (x_372 : Int32) =>
    lt10 (y_X12_readNumber 0 20 h0_size h0_limit u_337 u_338 u_339 u_340 u_341 u_342 u_343 u_344 h0_told F_h0_tape) fun (r_375 : Int32) (u_377 : Int32) (u_378 : Int32) (u_379 : Int32) (u_380 : Int32) (u_381 : Int32) (u_382 : Int32) (u_383 : Int32) (u_384 : Int64) (u_385 : Int32) =>
    if (r_375 : Int32) = 0 then (
     lt2 (y_X12_put_2 x_372 0 u_385 F_h0_read) fun (r_416 : Int32) (u_418 : Nat → Int32) =>
     (0, u_377, u_378, u_379, u_380, u_381, u_382, u_383, u_384, u_385, u_418, u_345)
    ) else (
     lt2 (y_X12_put_2 x_372 1 u_385 F_h0_read) fun (r_440 : Int32) (u_442 : Nat → Int32) =>
     lt1 ((40 : Int32) + x_330) fun (x_462 : Int32) =>
     lt10 (y_X12_readNumber 0 20 h0_size h0_limit u_377 u_378 u_379 u_380 u_381 u_382 u_383 u_384 u_385 F_h0_tape) fun (r_465 : Int32) (u_467 : Int32) (u_468 : Int32) (u_469 : Int32) (u_470 : Int32) (u_471 : Int32) (u_472 : Int32) (u_473 : Int32) (u_474 : Int64) (u_475 : Int32) =>
     if (r_465 : Int32) = 0 then (
      lt2 (y_X12_put_2 x_462 0 u_475 u_442) fun (r_506 : Int32) (u_508 : Nat → Int32) =>
      (0, u_467, u_468, u_469, u_470, u_471, u_472, u_473, u_474, u_475, u_508, u_345)
     ) else (
      lt2 (y_X12_put_2 x_462 1 u_475 u_442) fun (r_535 : Int32) (u_537 : Nat → Int32) =>
      lt1 (u_537 (1 : Int32).toNatClampNeg) fun (x_562 : Int32) =>
      lt1 ((x_562 : Int32) + 1) fun (x_564 : Int32) =>
      lt1 (upd u_537 (1 : Int32).toNatClampNeg (x_564 : Int32)) fun (g_567 : Nat → Int32) =>
      (1, u_467, u_468, u_469, u_470, u_471, u_472, u_473, u_474, u_475, g_567, u_345)
     )
    )
   )
  ) else (
   (0, u_296, u_297, u_298, u_299, u_300, u_301, u_302, u_303, h0_told, F_h0_read, F_h0_readName)
  )) := rfl
def y_X12_isOne_j (a2 : Int32) (h0_from : Int32) (h0_kind : Int32) (h0_fault : Int32) (h0_place : Int32) (h0_word : Int64) (h0_told : Int32) (F_h0_readName : Nat → Int64)  : Int32 × Int32 × Int32 × Int32 :=
  lt1 (y_X12_isName h0_kind h0_word) fun (r_27 : Int32) =>
  if (r_27 : Int32) = 0 then (
   lt2 (y_X12_bad 1 h0_kind) fun (r_34 : Int32) (u_36 : Int32) =>
   (0, u_36, h0_from, h0_told)
  ) else (
   lt1 (y_X12_findIn_0 a2 h0_word F_h0_readName) fun (r_39 : Int32) =>
   if (r_39 : Int32) = (-1) then (
    lt2 (y_X12_bad 3 h0_kind) fun (r_48 : Int32) (u_50 : Int32) =>
    (0, u_50, h0_from, r_39)
   ) else (
    (1, h0_fault, h0_place, r_39)
   )
  )
theorem y_X12_isOne_j_s (a2 : Int32) (h0_from : Int32) (h0_kind : Int32) (h0_fault : Int32) (h0_place : Int32) (h0_word : Int64) (h0_told : Int32) (F_h0_readName : Nat → Int64)  : y_X12_isOne_j a2 h0_from h0_kind h0_fault h0_place h0_word h0_told F_h0_readName = (
  lt1 (y_X12_isName h0_kind h0_word) fun (r_27 : Int32) =>
  if (r_27 : Int32) = 0 then (
   lt2 (y_X12_bad 1 h0_kind) fun (r_34 : Int32) (u_36 : Int32) =>
   (0, u_36, h0_from, h0_told)
  ) else (
   lt1 (y_X12_findIn_0 a2 h0_word F_h0_readName) fun (r_39 : Int32) =>
   if (r_39 : Int32) = (-1) then (
    lt2 (y_X12_bad 3 h0_kind) fun (r_48 : Int32) (u_50 : Int32) =>
    (0, u_50, h0_from, r_39)
   ) else (
    (1, h0_fault, h0_place, r_39)
   )
  )) := rfl
def y_X12_isOne_f (a2 : Int32) (h0_from : Int32) (h0_kind : Int32) (h0_fault : Int32) (h0_place : Int32) (h0_word : Int64) (h0_told : Int32) (F_h0_readName : Nat → Int64)  : Int32 × Int32 × Int32 × Int32 :=
  lt1 (y_X12_isName h0_kind h0_word) fun (r_27 : Int32) =>
  if (r_27 : Int32) = 0 then (
   lt2 (y_X12_bad 1 h0_kind) fun (r_34 : Int32) (u_36 : Int32) =>
   (0, u_36, h0_from, h0_told)
  ) else (
   lt1 (y_X12_findIn_10 a2 h0_word F_h0_readName) fun (r_39 : Int32) =>
   if (r_39 : Int32) = (-1) then (
    lt2 (y_X12_bad 3 h0_kind) fun (r_48 : Int32) (u_50 : Int32) =>
    (0, u_50, h0_from, r_39)
   ) else (
    (1, h0_fault, h0_place, r_39)
   )
  )
theorem y_X12_isOne_f_s (a2 : Int32) (h0_from : Int32) (h0_kind : Int32) (h0_fault : Int32) (h0_place : Int32) (h0_word : Int64) (h0_told : Int32) (F_h0_readName : Nat → Int64)  : y_X12_isOne_f a2 h0_from h0_kind h0_fault h0_place h0_word h0_told F_h0_readName = (
  lt1 (y_X12_isName h0_kind h0_word) fun (r_27 : Int32) =>
  if (r_27 : Int32) = 0 then (
   lt2 (y_X12_bad 1 h0_kind) fun (r_34 : Int32) (u_36 : Int32) =>
   (0, u_36, h0_from, h0_told)
  ) else (
   lt1 (y_X12_findIn_10 a2 h0_word F_h0_readName) fun (r_39 : Int32) =>
   if (r_39 : Int32) = (-1) then (
    lt2 (y_X12_bad 3 h0_kind) fun (r_48 : Int32) (u_50 : Int32) =>
    (0, u_50, h0_from, r_39)
   ) else (
    (1, h0_fault, h0_place, r_39)
   )
  )) := rfl
def y_X12_readCase (h0_size : Int32) (h0_limit : Int32) (h0_to : Int32) (h0_from : Int32) (h0_kind : Int32) (h0_number : Int32) (h0_sign : Int32) (h0_fault : Int32) (h0_place : Int32) (h0_word : Int64) (h0_told : Int32) (F_h0_read : Nat → Int32) (F_h0_tape : Nat → Int32) (F_h0_readName : Nat → Int64)  : Int32 × Int32 × Int32 × Int32 × Int32 × Int32 × Int32 × Int32 × Int64 × Int32 × (Nat → Int32) × (Nat → Int64) :=
  lt9 (y_X12_readFirst_c h0_size h0_limit h0_to h0_from h0_kind h0_number h0_sign h0_fault h0_place h0_word F_h0_read F_h0_tape) fun (r_155 : Int32) (u_157 : Int32) (u_158 : Int32) (u_159 : Int32) (u_160 : Int32) (u_161 : Int32) (u_162 : Int32) (u_163 : Int32) (u_164 : Int64) =>
  if (r_155 : Int32) = 1 then (
   lt1 (F_h0_read (2 : Int32).toNatClampNeg) fun (x_191 : Int32) =>
   lt1 ((14 : Int32) + x_191) fun (x_193 : Int32) =>
   lt10 (y_X12_readNew x_193 h0_size h0_limit u_157 u_158 u_159 u_160 u_161 u_162 u_163 u_164 F_h0_read F_h0_readName F_h0_tape) fun (r_196 : Int32) (u_198 : Int32) (u_199 : Int32) (u_200 : Int32) (u_201 : Int32) (u_202 : Int32) (u_203 : Int32) (u_204 : Int32) (u_205 : Int64) (u_206 : Nat → Int64) =>
   if (r_196 : Int32) = 0 then (
    (0, u_198, u_199, u_200, u_201, u_202, u_203, u_204, u_205, h0_told, F_h0_read, u_206)
   ) else (
    lt1 ((44 : Int32) + x_191) fun (x_233 : Int32) =>
    lt1 (F_h0_read (1 : Int32).toNatClampNeg) fun (x_236 : Int32) =>
    lt4 (y_X12_isOne_f x_236 u_199 u_200 u_203 u_204 u_205 h0_told u_206) fun (r_238 : Int32) (u_240 : Int32) (u_241 : Int32) (u_242 : Int32) =>
    if (r_238 : Int32) = 0 then (
     lt1 (y_X12_put_0) fun (r_253 : Int32) =>
     (0, u_198, u_199, u_200, u_201, u_202, u_240, u_241, u_205, u_242, F_h0_read, u_206)
    ) else (
     lt2 (y_X12_put_on x_233 u_242 F_h0_read) fun (r_257 : Int32) (u_259 : Nat → Int32) =>
     lt6 (y_X12_go h0_size h0_limit u_198 u_201 u_202 u_205 F_h0_tape) fun (u_278 : Int32) (u_279 : Int32) (u_280 : Int32) (u_281 : Int32) (u_282 : Int32) (u_283 : Int64) =>
     lt1 (u_259 (2 : Int32).toNatClampNeg) fun (x_290 : Int32) =>
     lt1 ((x_290 : Int32) + 1) fun (x_292 : Int32) =>
     lt1 (upd u_259 (2 : Int32).toNatClampNeg (x_292 : Int32)) fun (g_295 : Nat → Int32) =>
     (1, u_278, u_279, u_280, u_281, u_282, u_240, u_241, u_283, u_242, g_295, u_206)
    )
   )
  ) else (
   (0, u_157, u_158, u_159, u_160, u_161, u_162, u_163, u_164, h0_told, F_h0_read, F_h0_readName)
  )
theorem y_X12_readCase_s (h0_size : Int32) (h0_limit : Int32) (h0_to : Int32) (h0_from : Int32) (h0_kind : Int32) (h0_number : Int32) (h0_sign : Int32) (h0_fault : Int32) (h0_place : Int32) (h0_word : Int64) (h0_told : Int32) (F_h0_read : Nat → Int32) (F_h0_tape : Nat → Int32) (F_h0_readName : Nat → Int64)  : y_X12_readCase h0_size h0_limit h0_to h0_from h0_kind h0_number h0_sign h0_fault h0_place h0_word h0_told F_h0_read F_h0_tape F_h0_readName = (
  lt9 (y_X12_readFirst_c h0_size h0_limit h0_to h0_from h0_kind h0_number h0_sign h0_fault h0_place h0_word F_h0_read F_h0_tape) fun (r_155 : Int32) (u_157 : Int32) (u_158 : Int32) (u_159 : Int32) (u_160 : Int32) (u_161 : Int32) (u_162 : Int32) (u_163 : Int32) (u_164 : Int64) =>
  if (r_155 : Int32) = 1 then (
   lt1 (F_h0_read (2 : Int32).toNatClampNeg) fun (x_191 : Int32) =>
   lt1 ((14 : Int32) + x_191) fun (x_193 : Int32) =>
   lt10 (y_X12_readNew x_193 h0_size h0_limit u_157 u_158 u_159 u_160 u_161 u_162 u_163 u_164 F_h0_read F_h0_readName F_h0_tape) fun (r_196 : Int32) (u_198 : Int32) (u_199 : Int32) (u_200 : Int32) (u_201 : Int32) (u_202 : Int32) (u_203 : Int32) (u_204 : Int32) (u_205 : Int64) (u_206 : Nat → Int64) =>
   if (r_196 : Int32) = 0 then (
    (0, u_198, u_199, u_200, u_201, u_202, u_203, u_204, u_205, h0_told, F_h0_read, u_206)
   ) else (
    lt1 ((44 : Int32) + x_191) fun (x_233 : Int32) =>
    lt1 (F_h0_read (1 : Int32).toNatClampNeg) fun (x_236 : Int32) =>
    lt4 (y_X12_isOne_f x_236 u_199 u_200 u_203 u_204 u_205 h0_told u_206) fun (r_238 : Int32) (u_240 : Int32) (u_241 : Int32) (u_242 : Int32) =>
    if (r_238 : Int32) = 0 then (
     lt1 (y_X12_put_0) fun (r_253 : Int32) =>
     (0, u_198, u_199, u_200, u_201, u_202, u_240, u_241, u_205, u_242, F_h0_read, u_206)
    ) else (
     lt2 (y_X12_put_on x_233 u_242 F_h0_read) fun (r_257 : Int32) (u_259 : Nat → Int32) =>
     lt6 (y_X12_go h0_size h0_limit u_198 u_201 u_202 u_205 F_h0_tape) fun (u_278 : Int32) (u_279 : Int32) (u_280 : Int32) (u_281 : Int32) (u_282 : Int32) (u_283 : Int64) =>
     lt1 (u_259 (2 : Int32).toNatClampNeg) fun (x_290 : Int32) =>
     lt1 ((x_290 : Int32) + 1) fun (x_292 : Int32) =>
     lt1 (upd u_259 (2 : Int32).toNatClampNeg (x_292 : Int32)) fun (g_295 : Nat → Int32) =>
     (1, u_278, u_279, u_280, u_281, u_282, u_240, u_241, u_283, u_242, g_295, u_206)
    )
   )
  ) else (
   (0, u_157, u_158, u_159, u_160, u_161, u_162, u_163, u_164, h0_told, F_h0_read, F_h0_readName)
  )) := rfl
def y_X12_readTuned (h0_size : Int32) (h0_limit : Int32) (h0_to : Int32) (h0_number : Int32) (h0_sign : Int32) (h0_fault : Int32) (h0_place : Int32) (h0_word : Int64) (h0_told : Int32) (F_h0_tape : Nat → Int32) (F_h0_read : Nat → Int32) (F_h0_readName : Nat → Int64)  : Int32 × Int32 × Int32 × Int32 × Int32 × Int32 × Int32 × Int32 × Int64 × Int32 × (Nat → Int32) :=
  lt6 (y_X12_go h0_size h0_limit h0_to h0_number h0_sign h0_word F_h0_tape) fun (u_182 : Int32) (u_183 : Int32) (u_184 : Int32) (u_185 : Int32) (u_186 : Int32) (u_187 : Int64) =>
  lt1 (F_h0_read (0 : Int32).toNatClampNeg) fun (x_194 : Int32) =>
  lt4 (y_X12_isOne_j x_194 u_183 u_184 h0_fault h0_place u_187 h0_told F_h0_readName) fun (r_196 : Int32) (u_198 : Int32) (u_199 : Int32) (u_200 : Int32) =>
  if (r_196 : Int32) = 0 then (
   (0, u_182, u_183, u_184, u_185, u_186, u_198, u_199, u_187, u_200, F_h0_read)
  ) else (
   lt1 ((4 : Int32) * u_200) fun (x_211 : Int32) =>
   lt1 ((49 : Int32) + x_211) fun (x_214 : Int32) =>
   lt6 (y_X12_go h0_size h0_limit u_182 u_185 u_186 u_187 F_h0_tape) fun (u_219 : Int32) (u_220 : Int32) (u_221 : Int32) (u_222 : Int32) (u_223 : Int32) (u_224 : Int64) =>
   lt1 (F_h0_read (1 : Int32).toNatClampNeg) fun (x_231 : Int32) =>
   lt4 (y_X12_isOne_f x_231 u_220 u_221 u_198 u_199 u_224 u_200 F_h0_readName) fun (r_233 : Int32) (u_235 : Int32) (u_236 : Int32) (u_237 : Int32) =>
   if (r_233 : Int32) = 0 then (
    (0, u_219, u_220, u_221, u_222, u_223, u_235, u_236, u_224, u_237, F_h0_read)
   ) else (
    lt1 ((x_214 : Int32) + u_237) fun (x_248 : Int32) =>
    lt1 (F_h0_read (x_248 : Int32).toNatClampNeg) fun (x_251 : Int32) =>
    if (x_251 : Int32) = (-1) then (
     lt6 (y_X12_go h0_size h0_limit u_219 u_222 u_223 u_224 F_h0_tape) fun (u_259 : Int32) (u_260 : Int32) (u_261 : Int32) (u_262 : Int32) (u_263 : Int32) (u_264 : Int64) =>
     lt10 (y_X12_readNumber 0 60 h0_size h0_limit u_259 u_260 u_261 u_262 u_263 u_235 u_236 u_264 u_237 F_h0_tape) fun (r_271 : Int32) (u_273 : Int32) (u_274 : Int32) (u_275 : Int32) (u_276 : Int32) (u_277 : Int32) (u_278 : Int32) (u_279 : Int32) (u_280 : Int64) (u_281 : Int32) =>
     if (r_271 : Int32) = 0 then (
      lt2 (y_X12_put_3 x_248 0 u_281 F_h0_read) fun (r_314 : Int32) (u_316 : Nat → Int32) =>
      (0, u_273, u_274, u_275, u_276, u_277, u_278, u_279, u_280, u_281, u_316)
     ) else (
      lt2 (y_X12_put_3 x_248 1 u_281 F_h0_read) fun (r_335 : Int32) (u_337 : Nat → Int32) =>
      (1, u_273, u_274, u_275, u_276, u_277, u_278, u_279, u_280, u_281, u_337)
     )
    ) else (
     lt2 (y_X12_bad 3 u_221) fun (r_354 : Int32) (u_356 : Int32) =>
     (0, u_219, u_220, u_221, u_222, u_223, u_356, u_220, u_224, u_237, F_h0_read)
    )
   )
  )
theorem y_X12_readTuned_s (h0_size : Int32) (h0_limit : Int32) (h0_to : Int32) (h0_number : Int32) (h0_sign : Int32) (h0_fault : Int32) (h0_place : Int32) (h0_word : Int64) (h0_told : Int32) (F_h0_tape : Nat → Int32) (F_h0_read : Nat → Int32) (F_h0_readName : Nat → Int64)  : y_X12_readTuned h0_size h0_limit h0_to h0_number h0_sign h0_fault h0_place h0_word h0_told F_h0_tape F_h0_read F_h0_readName = (
  lt6 (y_X12_go h0_size h0_limit h0_to h0_number h0_sign h0_word F_h0_tape) fun (u_182 : Int32) (u_183 : Int32) (u_184 : Int32) (u_185 : Int32) (u_186 : Int32) (u_187 : Int64) =>
  lt1 (F_h0_read (0 : Int32).toNatClampNeg) fun (x_194 : Int32) =>
  lt4 (y_X12_isOne_j x_194 u_183 u_184 h0_fault h0_place u_187 h0_told F_h0_readName) fun (r_196 : Int32) (u_198 : Int32) (u_199 : Int32) (u_200 : Int32) =>
  if (r_196 : Int32) = 0 then (
   (0, u_182, u_183, u_184, u_185, u_186, u_198, u_199, u_187, u_200, F_h0_read)
  ) else (
   lt1 ((4 : Int32) * u_200) fun (x_211 : Int32) =>
   lt1 ((49 : Int32) + x_211) fun (x_214 : Int32) =>
   lt6 (y_X12_go h0_size h0_limit u_182 u_185 u_186 u_187 F_h0_tape) fun (u_219 : Int32) (u_220 : Int32) (u_221 : Int32) (u_222 : Int32) (u_223 : Int32) (u_224 : Int64) =>
   lt1 (F_h0_read (1 : Int32).toNatClampNeg) fun (x_231 : Int32) =>
   lt4 (y_X12_isOne_f x_231 u_220 u_221 u_198 u_199 u_224 u_200 F_h0_readName) fun (r_233 : Int32) (u_235 : Int32) (u_236 : Int32) (u_237 : Int32) =>
   if (r_233 : Int32) = 0 then (
    (0, u_219, u_220, u_221, u_222, u_223, u_235, u_236, u_224, u_237, F_h0_read)
   ) else (
    lt1 ((x_214 : Int32) + u_237) fun (x_248 : Int32) =>
    lt1 (F_h0_read (x_248 : Int32).toNatClampNeg) fun (x_251 : Int32) =>
    if (x_251 : Int32) = (-1) then (
     lt6 (y_X12_go h0_size h0_limit u_219 u_222 u_223 u_224 F_h0_tape) fun (u_259 : Int32) (u_260 : Int32) (u_261 : Int32) (u_262 : Int32) (u_263 : Int32) (u_264 : Int64) =>
     lt10 (y_X12_readNumber 0 60 h0_size h0_limit u_259 u_260 u_261 u_262 u_263 u_235 u_236 u_264 u_237 F_h0_tape) fun (r_271 : Int32) (u_273 : Int32) (u_274 : Int32) (u_275 : Int32) (u_276 : Int32) (u_277 : Int32) (u_278 : Int32) (u_279 : Int32) (u_280 : Int64) (u_281 : Int32) =>
     if (r_271 : Int32) = 0 then (
      lt2 (y_X12_put_3 x_248 0 u_281 F_h0_read) fun (r_314 : Int32) (u_316 : Nat → Int32) =>
      (0, u_273, u_274, u_275, u_276, u_277, u_278, u_279, u_280, u_281, u_316)
     ) else (
      lt2 (y_X12_put_3 x_248 1 u_281 F_h0_read) fun (r_335 : Int32) (u_337 : Nat → Int32) =>
      (1, u_273, u_274, u_275, u_276, u_277, u_278, u_279, u_280, u_281, u_337)
     )
    ) else (
     lt2 (y_X12_bad 3 u_221) fun (r_354 : Int32) (u_356 : Int32) =>
     (0, u_219, u_220, u_221, u_222, u_223, u_356, u_220, u_224, u_237, F_h0_read)
    )
   )
  )) := rfl
def y_X12_readOnce (a1 : Int32) (a2 : Int32) (a3 : Int32) (h0_size : Int32) (h0_limit : Int32) (h0_to : Int32) (h0_from : Int32) (h0_kind : Int32) (h0_number : Int32) (h0_sign : Int32) (h0_fault : Int32) (h0_place : Int32) (h0_word : Int64) (h0_told : Int32) (F_h0_onces : Nat → Int32) (F_h0_tape : Nat → Int32) (F_h0_read : Nat → Int32)  : Int32 × Int32 × Int32 × Int32 × Int32 × Int32 × Int32 × Int32 × Int64 × Int32 × (Nat → Int32) × (Nat → Int32) :=
  lt1 (F_h0_onces (a1 : Int32).toNatClampNeg) fun (x_112 : Int32) =>
  if (x_112 : Int32) = 0 then (
   lt1 (upd F_h0_onces (a1 : Int32).toNatClampNeg (vp_nar .boolean 1)) fun (g_118 : Nat → Int32) =>
   lt6 (y_X12_go h0_size h0_limit h0_to h0_number h0_sign h0_word F_h0_tape) fun (u_121 : Int32) (u_122 : Int32) (u_123 : Int32) (u_124 : Int32) (u_125 : Int32) (u_126 : Int64) =>
   lt10 (y_X12_readNumber 0 a3 h0_size h0_limit u_121 u_122 u_123 u_124 u_125 h0_fault h0_place u_126 h0_told F_h0_tape) fun (r_133 : Int32) (u_135 : Int32) (u_136 : Int32) (u_137 : Int32) (u_138 : Int32) (u_139 : Int32) (u_140 : Int32) (u_141 : Int32) (u_142 : Int64) (u_143 : Int32) =>
   if (r_133 : Int32) = 0 then (
    lt2 (y_X12_put_4 a2 0 u_143 F_h0_read) fun (r_174 : Int32) (u_176 : Nat → Int32) =>
    (0, u_135, u_136, u_137, u_138, u_139, u_140, u_141, u_142, u_143, g_118, u_176)
   ) else (
    lt2 (y_X12_put_4 a2 1 u_143 F_h0_read) fun (r_197 : Int32) (u_199 : Nat → Int32) =>
    (1, u_135, u_136, u_137, u_138, u_139, u_140, u_141, u_142, u_143, g_118, u_199)
   )
  ) else (
   lt2 (y_X12_bad 3 h0_kind) fun (r_218 : Int32) (u_220 : Int32) =>
   (0, h0_to, h0_from, h0_kind, h0_number, h0_sign, u_220, h0_from, h0_word, h0_told, F_h0_onces, F_h0_read)
  )
theorem y_X12_readOnce_s (a1 : Int32) (a2 : Int32) (a3 : Int32) (h0_size : Int32) (h0_limit : Int32) (h0_to : Int32) (h0_from : Int32) (h0_kind : Int32) (h0_number : Int32) (h0_sign : Int32) (h0_fault : Int32) (h0_place : Int32) (h0_word : Int64) (h0_told : Int32) (F_h0_onces : Nat → Int32) (F_h0_tape : Nat → Int32) (F_h0_read : Nat → Int32)  : y_X12_readOnce a1 a2 a3 h0_size h0_limit h0_to h0_from h0_kind h0_number h0_sign h0_fault h0_place h0_word h0_told F_h0_onces F_h0_tape F_h0_read = (
  lt1 (F_h0_onces (a1 : Int32).toNatClampNeg) fun (x_112 : Int32) =>
  if (x_112 : Int32) = 0 then (
   lt1 (upd F_h0_onces (a1 : Int32).toNatClampNeg (vp_nar .boolean 1)) fun (g_118 : Nat → Int32) =>
   lt6 (y_X12_go h0_size h0_limit h0_to h0_number h0_sign h0_word F_h0_tape) fun (u_121 : Int32) (u_122 : Int32) (u_123 : Int32) (u_124 : Int32) (u_125 : Int32) (u_126 : Int64) =>
   lt10 (y_X12_readNumber 0 a3 h0_size h0_limit u_121 u_122 u_123 u_124 u_125 h0_fault h0_place u_126 h0_told F_h0_tape) fun (r_133 : Int32) (u_135 : Int32) (u_136 : Int32) (u_137 : Int32) (u_138 : Int32) (u_139 : Int32) (u_140 : Int32) (u_141 : Int32) (u_142 : Int64) (u_143 : Int32) =>
   if (r_133 : Int32) = 0 then (
    lt2 (y_X12_put_4 a2 0 u_143 F_h0_read) fun (r_174 : Int32) (u_176 : Nat → Int32) =>
    (0, u_135, u_136, u_137, u_138, u_139, u_140, u_141, u_142, u_143, g_118, u_176)
   ) else (
    lt2 (y_X12_put_4 a2 1 u_143 F_h0_read) fun (r_197 : Int32) (u_199 : Nat → Int32) =>
    (1, u_135, u_136, u_137, u_138, u_139, u_140, u_141, u_142, u_143, g_118, u_199)
   )
  ) else (
   lt2 (y_X12_bad 3 h0_kind) fun (r_218 : Int32) (u_220 : Int32) =>
   (0, h0_to, h0_from, h0_kind, h0_number, h0_sign, u_220, h0_from, h0_word, h0_told, F_h0_onces, F_h0_read)
  )) := rfl
def y_X12_readLine (h0_size : Int32) (h0_limit : Int32) (h0_to : Int32) (h0_from : Int32) (h0_kind : Int32) (h0_number : Int32) (h0_sign : Int32) (h0_fault : Int32) (h0_place : Int32) (h0_word : Int64) (h0_told : Int32) (F_h0_onces : Nat → Int32) (F_h0_tape : Nat → Int32) (F_h0_read : Nat → Int32) (F_h0_readName : Nat → Int64)  : Int32 × Int32 × Int32 × Int32 × Int32 × Int32 × Int32 × Int32 × Int64 × Int32 × (Nat → Int32) × (Nat → Int32) × (Nat → Int64) :=
  lt1 (y_X12_isWord_0 h0_kind h0_word) fun (r_384 : Int32) =>
  if (r_384 : Int32) = 0 then (
   lt1 (y_X12_isWord_2 h0_kind h0_word) fun (r_391 : Int32) =>
   if (r_391 : Int32) = 0 then (
    lt1 (y_X12_isWord_3 h0_kind h0_word) fun (r_398 : Int32) =>
    if (r_398 : Int32) = 0 then (
     lt1 (y_X12_isWord_4 h0_kind h0_word) fun (r_405 : Int32) =>
     if (r_405 : Int32) = 0 then (
      lt1 (y_X12_isWord_5 h0_kind h0_word) fun (r_412 : Int32) =>
      if (r_412 : Int32) = 0 then (
       lt1 (y_X12_isWord_6 h0_kind h0_word) fun (r_419 : Int32) =>
       if (r_419 : Int32) = 0 then (
        lt2 (y_X12_bad 1 h0_kind) fun (r_426 : Int32) (u_428 : Int32) =>
        (0, h0_to, h0_from, h0_kind, h0_number, h0_sign, u_428, h0_from, h0_word, h0_told, F_h0_onces, F_h0_read, F_h0_readName)
       ) else (
        lt12 (y_X12_readOnce 1 4 9 h0_size h0_limit h0_to h0_from h0_kind h0_number h0_sign h0_fault h0_place h0_word h0_told F_h0_onces F_h0_tape F_h0_read) fun (r_431 : Int32) (u_433 : Int32) (u_434 : Int32) (u_435 : Int32) (u_436 : Int32) (u_437 : Int32) (u_438 : Int32) (u_439 : Int32) (u_440 : Int64) (u_441 : Int32) (u_442 : Nat → Int32) (u_443 : Nat → Int32) =>
        if (r_431 : Int32) = 0 then (
         (0, u_433, u_434, u_435, u_436, u_437, u_438, u_439, u_440, u_441, u_442, u_443, F_h0_readName)
        ) else (
         (1, u_433, u_434, u_435, u_436, u_437, u_438, u_439, u_440, u_441, u_442, u_443, F_h0_readName)
        )
       )
      ) else (
       lt12 (y_X12_readOnce 0 3 20 h0_size h0_limit h0_to h0_from h0_kind h0_number h0_sign h0_fault h0_place h0_word h0_told F_h0_onces F_h0_tape F_h0_read) fun (r_490 : Int32) (u_492 : Int32) (u_493 : Int32) (u_494 : Int32) (u_495 : Int32) (u_496 : Int32) (u_497 : Int32) (u_498 : Int32) (u_499 : Int64) (u_500 : Int32) (u_501 : Nat → Int32) (u_502 : Nat → Int32) =>
       if (r_490 : Int32) = 0 then (
        (0, u_492, u_493, u_494, u_495, u_496, u_497, u_498, u_499, u_500, u_501, u_502, F_h0_readName)
       ) else (
        (1, u_492, u_493, u_494, u_495, u_496, u_497, u_498, u_499, u_500, u_501, u_502, F_h0_readName)
       )
      )
     ) else (
      lt11 (y_X12_readTuned h0_size h0_limit h0_to h0_number h0_sign h0_fault h0_place h0_word h0_told F_h0_tape F_h0_read F_h0_readName) fun (r_549 : Int32) (u_551 : Int32) (u_552 : Int32) (u_553 : Int32) (u_554 : Int32) (u_555 : Int32) (u_556 : Int32) (u_557 : Int32) (u_558 : Int64) (u_559 : Int32) (u_560 : Nat → Int32) =>
      if (r_549 : Int32) = 0 then (
       (0, u_551, u_552, u_553, u_554, u_555, u_556, u_557, u_558, u_559, F_h0_onces, u_560, F_h0_readName)
      ) else (
       (1, u_551, u_552, u_553, u_554, u_555, u_556, u_557, u_558, u_559, F_h0_onces, u_560, F_h0_readName)
      )
     )
    ) else (
     lt12 (y_X12_readCase h0_size h0_limit h0_to h0_from h0_kind h0_number h0_sign h0_fault h0_place h0_word h0_told F_h0_read F_h0_tape F_h0_readName) fun (r_601 : Int32) (u_603 : Int32) (u_604 : Int32) (u_605 : Int32) (u_606 : Int32) (u_607 : Int32) (u_608 : Int32) (u_609 : Int32) (u_610 : Int64) (u_611 : Int32) (u_612 : Nat → Int32) (u_613 : Nat → Int64) =>
     if (r_601 : Int32) = 0 then (
      (0, u_603, u_604, u_605, u_606, u_607, u_608, u_609, u_610, u_611, F_h0_onces, u_612, u_613)
     ) else (
      (1, u_603, u_604, u_605, u_606, u_607, u_608, u_609, u_610, u_611, F_h0_onces, u_612, u_613)
     )
    )
   ) else (
    lt12 (y_X12_readFloor h0_size h0_limit h0_to h0_from h0_kind h0_number h0_sign h0_fault h0_place h0_word h0_told F_h0_read F_h0_tape F_h0_readName) fun (r_656 : Int32) (u_658 : Int32) (u_659 : Int32) (u_660 : Int32) (u_661 : Int32) (u_662 : Int32) (u_663 : Int32) (u_664 : Int32) (u_665 : Int64) (u_666 : Int32) (u_667 : Nat → Int32) (u_668 : Nat → Int64) =>
    if (r_656 : Int32) = 0 then (
     (0, u_658, u_659, u_660, u_661, u_662, u_663, u_664, u_665, u_666, F_h0_onces, u_667, u_668)
    ) else (
     (1, u_658, u_659, u_660, u_661, u_662, u_663, u_664, u_665, u_666, F_h0_onces, u_667, u_668)
    )
   )
  ) else (
   lt12 (y_X12_readJuror h0_size h0_limit h0_to h0_from h0_kind h0_number h0_sign h0_fault h0_place h0_word h0_told F_h0_read F_h0_tape F_h0_readName) fun (r_713 : Int32) (u_715 : Int32) (u_716 : Int32) (u_717 : Int32) (u_718 : Int32) (u_719 : Int32) (u_720 : Int32) (u_721 : Int32) (u_722 : Int64) (u_723 : Int32) (u_724 : Nat → Int32) (u_725 : Nat → Int64) =>
   if (r_713 : Int32) = 0 then (
    (0, u_715, u_716, u_717, u_718, u_719, u_720, u_721, u_722, u_723, F_h0_onces, u_724, u_725)
   ) else (
    (1, u_715, u_716, u_717, u_718, u_719, u_720, u_721, u_722, u_723, F_h0_onces, u_724, u_725)
   )
  )
theorem y_X12_readLine_s (h0_size : Int32) (h0_limit : Int32) (h0_to : Int32) (h0_from : Int32) (h0_kind : Int32) (h0_number : Int32) (h0_sign : Int32) (h0_fault : Int32) (h0_place : Int32) (h0_word : Int64) (h0_told : Int32) (F_h0_onces : Nat → Int32) (F_h0_tape : Nat → Int32) (F_h0_read : Nat → Int32) (F_h0_readName : Nat → Int64)  : y_X12_readLine h0_size h0_limit h0_to h0_from h0_kind h0_number h0_sign h0_fault h0_place h0_word h0_told F_h0_onces F_h0_tape F_h0_read F_h0_readName = (
  lt1 (y_X12_isWord_0 h0_kind h0_word) fun (r_384 : Int32) =>
  if (r_384 : Int32) = 0 then (
   lt1 (y_X12_isWord_2 h0_kind h0_word) fun (r_391 : Int32) =>
   if (r_391 : Int32) = 0 then (
    lt1 (y_X12_isWord_3 h0_kind h0_word) fun (r_398 : Int32) =>
    if (r_398 : Int32) = 0 then (
     lt1 (y_X12_isWord_4 h0_kind h0_word) fun (r_405 : Int32) =>
     if (r_405 : Int32) = 0 then (
      lt1 (y_X12_isWord_5 h0_kind h0_word) fun (r_412 : Int32) =>
      if (r_412 : Int32) = 0 then (
       lt1 (y_X12_isWord_6 h0_kind h0_word) fun (r_419 : Int32) =>
       if (r_419 : Int32) = 0 then (
        lt2 (y_X12_bad 1 h0_kind) fun (r_426 : Int32) (u_428 : Int32) =>
        (0, h0_to, h0_from, h0_kind, h0_number, h0_sign, u_428, h0_from, h0_word, h0_told, F_h0_onces, F_h0_read, F_h0_readName)
       ) else (
        lt12 (y_X12_readOnce 1 4 9 h0_size h0_limit h0_to h0_from h0_kind h0_number h0_sign h0_fault h0_place h0_word h0_told F_h0_onces F_h0_tape F_h0_read) fun (r_431 : Int32) (u_433 : Int32) (u_434 : Int32) (u_435 : Int32) (u_436 : Int32) (u_437 : Int32) (u_438 : Int32) (u_439 : Int32) (u_440 : Int64) (u_441 : Int32) (u_442 : Nat → Int32) (u_443 : Nat → Int32) =>
        if (r_431 : Int32) = 0 then (
         (0, u_433, u_434, u_435, u_436, u_437, u_438, u_439, u_440, u_441, u_442, u_443, F_h0_readName)
        ) else (
         (1, u_433, u_434, u_435, u_436, u_437, u_438, u_439, u_440, u_441, u_442, u_443, F_h0_readName)
        )
       )
      ) else (
       lt12 (y_X12_readOnce 0 3 20 h0_size h0_limit h0_to h0_from h0_kind h0_number h0_sign h0_fault h0_place h0_word h0_told F_h0_onces F_h0_tape F_h0_read) fun (r_490 : Int32) (u_492 : Int32) (u_493 : Int32) (u_494 : Int32) (u_495 : Int32) (u_496 : Int32) (u_497 : Int32) (u_498 : Int32) (u_499 : Int64) (u_500 : Int32) (u_501 : Nat → Int32) (u_502 : Nat → Int32) =>
       if (r_490 : Int32) = 0 then (
        (0, u_492, u_493, u_494, u_495, u_496, u_497, u_498, u_499, u_500, u_501, u_502, F_h0_readName)
       ) else (
        (1, u_492, u_493, u_494, u_495, u_496, u_497, u_498, u_499, u_500, u_501, u_502, F_h0_readName)
       )
      )
     ) else (
      lt11 (y_X12_readTuned h0_size h0_limit h0_to h0_number h0_sign h0_fault h0_place h0_word h0_told F_h0_tape F_h0_read F_h0_readName) fun (r_549 : Int32) (u_551 : Int32) (u_552 : Int32) (u_553 : Int32) (u_554 : Int32) (u_555 : Int32) (u_556 : Int32) (u_557 : Int32) (u_558 : Int64) (u_559 : Int32) (u_560 : Nat → Int32) =>
      if (r_549 : Int32) = 0 then (
       (0, u_551, u_552, u_553, u_554, u_555, u_556, u_557, u_558, u_559, F_h0_onces, u_560, F_h0_readName)
      ) else (
       (1, u_551, u_552, u_553, u_554, u_555, u_556, u_557, u_558, u_559, F_h0_onces, u_560, F_h0_readName)
      )
     )
    ) else (
     lt12 (y_X12_readCase h0_size h0_limit h0_to h0_from h0_kind h0_number h0_sign h0_fault h0_place h0_word h0_told F_h0_read F_h0_tape F_h0_readName) fun (r_601 : Int32) (u_603 : Int32) (u_604 : Int32) (u_605 : Int32) (u_606 : Int32) (u_607 : Int32) (u_608 : Int32) (u_609 : Int32) (u_610 : Int64) (u_611 : Int32) (u_612 : Nat → Int32) (u_613 : Nat → Int64) =>
     if (r_601 : Int32) = 0 then (
      (0, u_603, u_604, u_605, u_606, u_607, u_608, u_609, u_610, u_611, F_h0_onces, u_612, u_613)
     ) else (
      (1, u_603, u_604, u_605, u_606, u_607, u_608, u_609, u_610, u_611, F_h0_onces, u_612, u_613)
     )
    )
   ) else (
    lt12 (y_X12_readFloor h0_size h0_limit h0_to h0_from h0_kind h0_number h0_sign h0_fault h0_place h0_word h0_told F_h0_read F_h0_tape F_h0_readName) fun (r_656 : Int32) (u_658 : Int32) (u_659 : Int32) (u_660 : Int32) (u_661 : Int32) (u_662 : Int32) (u_663 : Int32) (u_664 : Int32) (u_665 : Int64) (u_666 : Int32) (u_667 : Nat → Int32) (u_668 : Nat → Int64) =>
    if (r_656 : Int32) = 0 then (
     (0, u_658, u_659, u_660, u_661, u_662, u_663, u_664, u_665, u_666, F_h0_onces, u_667, u_668)
    ) else (
     (1, u_658, u_659, u_660, u_661, u_662, u_663, u_664, u_665, u_666, F_h0_onces, u_667, u_668)
    )
   )
  ) else (
   lt12 (y_X12_readJuror h0_size h0_limit h0_to h0_from h0_kind h0_number h0_sign h0_fault h0_place h0_word h0_told F_h0_read F_h0_tape F_h0_readName) fun (r_713 : Int32) (u_715 : Int32) (u_716 : Int32) (u_717 : Int32) (u_718 : Int32) (u_719 : Int32) (u_720 : Int32) (u_721 : Int32) (u_722 : Int64) (u_723 : Int32) (u_724 : Nat → Int32) (u_725 : Nat → Int64) =>
   if (r_713 : Int32) = 0 then (
    (0, u_715, u_716, u_717, u_718, u_719, u_720, u_721, u_722, u_723, F_h0_onces, u_724, u_725)
   ) else (
    (1, u_715, u_716, u_717, u_718, u_719, u_720, u_721, u_722, u_723, F_h0_onces, u_724, u_725)
   )
  )) := rfl
def y_X12_isSign (a1 : Int32) (h0_kind : Int32) (h0_sign : Int32)  : Int32 :=
  if (h0_kind : Int32) = 4 then (
   if (h0_sign : Int32) = a1 then (
    1
   ) else (
    0
   )
  ) else (
   0
  )
theorem y_X12_isSign_s (a1 : Int32) (h0_kind : Int32) (h0_sign : Int32)  : y_X12_isSign a1 h0_kind h0_sign = (
  if (h0_kind : Int32) = 4 then (
   if (h0_sign : Int32) = a1 then (
    1
   ) else (
    0
   )
  ) else (
   0
  )) := rfl
def y_X12_readEnd (h0_size : Int32) (h0_limit : Int32) (h0_to : Int32) (h0_from : Int32) (h0_kind : Int32) (h0_number : Int32) (h0_sign : Int32) (h0_fault : Int32) (h0_place : Int32) (h0_word : Int64) (F_h0_tape : Nat → Int32)  : Int32 × Int32 × Int32 × Int32 × Int32 × Int32 × Int32 × Int32 × Int64 :=
  lt1 (y_X12_isSign 59 h0_kind h0_sign) fun (r_31 : Int32) =>
  if (r_31 : Int32) = 0 then (
   lt2 (y_X12_bad 1 h0_kind) fun (r_40 : Int32) (u_42 : Int32) =>
   (0, h0_to, h0_from, h0_kind, h0_number, h0_sign, u_42, h0_from, h0_word)
  ) else (
   lt6 (y_X12_go h0_size h0_limit h0_to h0_number h0_sign h0_word F_h0_tape) fun (u_49 : Int32) (u_50 : Int32) (u_51 : Int32) (u_52 : Int32) (u_53 : Int32) (u_54 : Int64) =>
   (1, u_49, u_50, u_51, u_52, u_53, h0_fault, h0_place, u_54)
  )
theorem y_X12_readEnd_s (h0_size : Int32) (h0_limit : Int32) (h0_to : Int32) (h0_from : Int32) (h0_kind : Int32) (h0_number : Int32) (h0_sign : Int32) (h0_fault : Int32) (h0_place : Int32) (h0_word : Int64) (F_h0_tape : Nat → Int32)  : y_X12_readEnd h0_size h0_limit h0_to h0_from h0_kind h0_number h0_sign h0_fault h0_place h0_word F_h0_tape = (
  lt1 (y_X12_isSign 59 h0_kind h0_sign) fun (r_31 : Int32) =>
  if (r_31 : Int32) = 0 then (
   lt2 (y_X12_bad 1 h0_kind) fun (r_40 : Int32) (u_42 : Int32) =>
   (0, h0_to, h0_from, h0_kind, h0_number, h0_sign, u_42, h0_from, h0_word)
  ) else (
   lt6 (y_X12_go h0_size h0_limit h0_to h0_number h0_sign h0_word F_h0_tape) fun (u_49 : Int32) (u_50 : Int32) (u_51 : Int32) (u_52 : Int32) (u_53 : Int32) (u_54 : Int64) =>
   (1, u_49, u_50, u_51, u_52, u_53, h0_fault, h0_place, u_54)
  )) := rfl
def y_X12_startSo_39  : Nat → Int32 → (Nat → Int32) → ((Nat → Int32))
 | 0, _, _ => (fun _ => 0)
 | n39 + 1, y39_0, f39_1 =>
  if (5 : Int32) ≤ y39_0 then (
   f39_1
  ) else (
   lt1 ((119 : Int32) + y39_0) fun (x_247 : Int32) =>
   lt1 (upd f39_1 (x_247 : Int32).toNatClampNeg ((-1) : Int32)) fun (g_250 : Nat → Int32) =>
   lt1 (y39_0 + 1) fun (x_260 : Int32) =>
   y_X12_startSo_39 n39 x_260 g_250
  )
theorem y_X12_startSo_39_s  (n39 : Nat) (y39_0 : Int32) (f39_1 : Nat → Int32) : y_X12_startSo_39 (n39 + 1) y39_0 f39_1 = (
  if (5 : Int32) ≤ y39_0 then (
   f39_1
  ) else (
   lt1 ((119 : Int32) + y39_0) fun (x_247 : Int32) =>
   lt1 (upd f39_1 (x_247 : Int32).toNatClampNeg ((-1) : Int32)) fun (g_250 : Nat → Int32) =>
   lt1 (y39_0 + 1) fun (x_260 : Int32) =>
   y_X12_startSo_39 n39 x_260 g_250
  )) := rfl
def y_X12_startSo_3  : Nat → Int32 → (Nat → Int32) → ((Nat → Int32))
 | 0, _, _ => (fun _ => 0)
 | n3 + 1, y3_0, f3_1 =>
  if (376 : Int32) ≤ y3_0 then (
   lt1 (f3_1 (35 : Int32).toNatClampNeg) fun (x_298 : Int32) =>
   lt1 (upd f3_1 (90 : Int32).toNatClampNeg (x_298 : Int32)) fun (g_300 : Nat → Int32) =>
   y_X12_startSo_39 6 0 g_300
  ) else (
   lt1 (upd f3_1 (y3_0 : Int32).toNatClampNeg (0 : Int32)) fun (g_313 : Nat → Int32) =>
   lt1 (y3_0 + 1) fun (x_323 : Int32) =>
   y_X12_startSo_3 n3 x_323 g_313
  )
theorem y_X12_startSo_3_s  (n3 : Nat) (y3_0 : Int32) (f3_1 : Nat → Int32) : y_X12_startSo_3 (n3 + 1) y3_0 f3_1 = (
  if (376 : Int32) ≤ y3_0 then (
   lt1 (f3_1 (35 : Int32).toNatClampNeg) fun (x_298 : Int32) =>
   lt1 (upd f3_1 (90 : Int32).toNatClampNeg (x_298 : Int32)) fun (g_300 : Nat → Int32) =>
   y_X12_startSo_39 6 0 g_300
  ) else (
   lt1 (upd f3_1 (y3_0 : Int32).toNatClampNeg (0 : Int32)) fun (g_313 : Nat → Int32) =>
   lt1 (y3_0 + 1) fun (x_323 : Int32) =>
   y_X12_startSo_3 n3 x_323 g_313
  )) := rfl
def y_X12_startSo (F_h0_now : Nat → Int32)  : (Nat → Int32) :=
  y_X12_startSo_3 288 89 F_h0_now
theorem y_X12_startSo_s (F_h0_now : Nat → Int32)  : y_X12_startSo F_h0_now = (
  y_X12_startSo_3 288 89 F_h0_now) := rfl
def y_X12_startSo_z_39  : Nat → Int32 → (Nat → Int32) → ((Nat → Int32))
 | 0, _, _ => (fun _ => 0)
 | n39 + 1, y39_0, f39_1 =>
  if (5 : Int32) ≤ y39_0 then (
   f39_1
  ) else (
   lt1 ((119 : Int32) + y39_0) fun (x_248 : Int32) =>
   lt1 (upd f39_1 (x_248 : Int32).toNatClampNeg ((-1) : Int32)) fun (g_251 : Nat → Int32) =>
   lt1 (y39_0 + 1) fun (x_262 : Int32) =>
   y_X12_startSo_z_39 n39 x_262 g_251
  )
theorem y_X12_startSo_z_39_s  (n39 : Nat) (y39_0 : Int32) (f39_1 : Nat → Int32) : y_X12_startSo_z_39 (n39 + 1) y39_0 f39_1 = (
  if (5 : Int32) ≤ y39_0 then (
   f39_1
  ) else (
   lt1 ((119 : Int32) + y39_0) fun (x_248 : Int32) =>
   lt1 (upd f39_1 (x_248 : Int32).toNatClampNeg ((-1) : Int32)) fun (g_251 : Nat → Int32) =>
   lt1 (y39_0 + 1) fun (x_262 : Int32) =>
   y_X12_startSo_z_39 n39 x_262 g_251
  )) := rfl
def y_X12_startSo_z_3  : Nat → Int32 → (Nat → Int32) → ((Nat → Int32))
 | 0, _, _ => (fun _ => 0)
 | n3 + 1, y3_0, f3_1 =>
  if (376 : Int32) ≤ y3_0 then (
   lt1 (f3_1 (35 : Int32).toNatClampNeg) fun (x_301 : Int32) =>
   lt1 (upd f3_1 (90 : Int32).toNatClampNeg (x_301 : Int32)) fun (g_303 : Nat → Int32) =>
   y_X12_startSo_z_39 6 0 g_303
  ) else (
   lt1 (upd f3_1 (y3_0 : Int32).toNatClampNeg (0 : Int32)) fun (g_316 : Nat → Int32) =>
   lt1 (y3_0 + 1) fun (x_327 : Int32) =>
   y_X12_startSo_z_3 n3 x_327 g_316
  )
theorem y_X12_startSo_z_3_s  (n3 : Nat) (y3_0 : Int32) (f3_1 : Nat → Int32) : y_X12_startSo_z_3 (n3 + 1) y3_0 f3_1 = (
  if (376 : Int32) ≤ y3_0 then (
   lt1 (f3_1 (35 : Int32).toNatClampNeg) fun (x_301 : Int32) =>
   lt1 (upd f3_1 (90 : Int32).toNatClampNeg (x_301 : Int32)) fun (g_303 : Nat → Int32) =>
   y_X12_startSo_z_39 6 0 g_303
  ) else (
   lt1 (upd f3_1 (y3_0 : Int32).toNatClampNeg (0 : Int32)) fun (g_316 : Nat → Int32) =>
   lt1 (y3_0 + 1) fun (x_327 : Int32) =>
   y_X12_startSo_z_3 n3 x_327 g_316
  )) := rfl
def y_X12_startSo_z (F_h0_now : Nat → Int32)  : (Nat → Int32) :=
  y_X12_startSo_z_3 288 89 F_h0_now
theorem y_X12_startSo_z_s (F_h0_now : Nat → Int32)  : y_X12_startSo_z F_h0_now = (
  y_X12_startSo_z_3 288 89 F_h0_now) := rfl
def y_X12_court_75  : Nat → Int32 → Int32 → Int32 → (Nat → Int64) → (Nat → Int32) → (Nat → Int64) → (Int32 × Int32 × (Nat → Int32) × (Nat → Int64))
 | 0, _, _, _, _, _, _ => (0, 0, (fun _ => 0), (fun _ => 0))
 | n75 + 1, y75_0, y75_1, y75_7, f75_18, f75_19, f75_29 =>
  if (19 : Int32) ≤ y75_1 then (
   lt1 (y_X12_startSo f75_19) fun (u_3736 : Nat → Int32) =>
   (y75_0, y75_7, u_3736, f75_29)
  ) else (
   lt1 (f75_18 (y75_1 : Int32).toNatClampNeg) fun (x_3755 : Int64) =>
   lt1 (vp_updL f75_29 (y75_1 : Int32).toNatClampNeg (x_3755 : Int64)) fun (g_3756 : Nat → Int64) =>
   lt1 (y75_1 + 1) fun (x_3757 : Int32) =>
   y_X12_court_75 n75 y75_0 x_3757 y75_7 f75_18 f75_19 g_3756
  )
theorem y_X12_court_75_s  (n75 : Nat) (y75_0 : Int32) (y75_1 : Int32) (y75_7 : Int32) (f75_18 : Nat → Int64) (f75_19 : Nat → Int32) (f75_29 : Nat → Int64) : y_X12_court_75 (n75 + 1) y75_0 y75_1 y75_7 f75_18 f75_19 f75_29 = (
  if (19 : Int32) ≤ y75_1 then (
   lt1 (y_X12_startSo f75_19) fun (u_3736 : Nat → Int32) =>
   (y75_0, y75_7, u_3736, f75_29)
  ) else (
   lt1 (f75_18 (y75_1 : Int32).toNatClampNeg) fun (x_3755 : Int64) =>
   lt1 (vp_updL f75_29 (y75_1 : Int32).toNatClampNeg (x_3755 : Int64)) fun (g_3756 : Nat → Int64) =>
   lt1 (y75_1 + 1) fun (x_3757 : Int32) =>
   y_X12_court_75 n75 y75_0 x_3757 y75_7 f75_18 f75_19 g_3756
  )) := rfl
def y_X12_court_49 (F_h0_name : Nat → Int64) : Nat → Int32 → Int32 → Int32 → (Nat → Int32) → (Nat → Int64) → (Nat → Int32) → (Int32 × Int32 × (Nat → Int32) × (Nat → Int64))
 | 0, _, _, _, _, _, _ => (0, 0, (fun _ => 0), (fun _ => 0))
 | n49 + 1, y49_0, y49_1, y49_7, f49_11, f49_18, f49_19 =>
  if (89 : Int32) ≤ y49_1 then (
   y_X12_court_75 20 y49_0 0 y49_7 f49_18 f49_19 F_h0_name
  ) else (
   lt1 (f49_11 (y49_1 : Int32).toNatClampNeg) fun (x_3785 : Int32) =>
   lt1 (upd f49_19 (y49_1 : Int32).toNatClampNeg (x_3785 : Int32)) fun (g_3786 : Nat → Int32) =>
   lt1 (y49_1 + 1) fun (x_3796 : Int32) =>
   y_X12_court_49 F_h0_name n49 y49_0 x_3796 y49_7 f49_11 f49_18 g_3786
  )
theorem y_X12_court_49_s (F_h0_name : Nat → Int64) (n49 : Nat) (y49_0 : Int32) (y49_1 : Int32) (y49_7 : Int32) (f49_11 : Nat → Int32) (f49_18 : Nat → Int64) (f49_19 : Nat → Int32) : y_X12_court_49 F_h0_name (n49 + 1) y49_0 y49_1 y49_7 f49_11 f49_18 f49_19 = (
  if (89 : Int32) ≤ y49_1 then (
   y_X12_court_75 20 y49_0 0 y49_7 f49_18 f49_19 F_h0_name
  ) else (
   lt1 (f49_11 (y49_1 : Int32).toNatClampNeg) fun (x_3785 : Int32) =>
   lt1 (upd f49_19 (y49_1 : Int32).toNatClampNeg (x_3785 : Int32)) fun (g_3786 : Nat → Int32) =>
   lt1 (y49_1 + 1) fun (x_3796 : Int32) =>
   y_X12_court_49 F_h0_name n49 y49_0 x_3796 y49_7 f49_11 f49_18 g_3786
  )) := rfl
def y_X12_court_13 (h0_taped : Int32) (F_h0_tape : Nat → Int32) (F_h0_now : Nat → Int32) (F_h0_name : Nat → Int64) : Nat → Int32 → Int32 → Int32 → Int32 → Int32 → Int32 → Int32 → Int32 → Int64 → Int32 → (Nat → Int32) → (Nat → Int32) → (Nat → Int64) → (Int32 × Int32 × (Nat → Int32) × (Nat → Int64))
 | 0, _, _, _, _, _, _, _, _, _, _, _, _, _ => (0, 0, (fun _ => 0), (fun _ => 0))
 | n13 + 1, y13_0, y13_1, y13_2, y13_3, y13_4, y13_5, y13_6, y13_7, y13_8, y13_9, f13_10, f13_16, f13_17 =>
  if (y13_3 : Int32) = 0 then (
   y_X12_court_49 F_h0_name 90 y13_0 0 y13_6 f13_10 f13_17 F_h0_now
  ) else (
   lt13 (y_X12_readLine h0_taped 900 y13_1 y13_2 y13_3 y13_4 y13_5 y13_6 y13_7 y13_8 y13_9 f13_16 F_h0_tape f13_10 f13_17) fun (r_3908 : Int32) (u_3910 : Int32) (u_3911 : Int32) (u_3912 : Int32) (u_3913 : Int32) (u_3914 : Int32) (u_3915 : Int32) (u_3916 : Int32) (u_3917 : Int64) (u_3918 : Int32) (u_3919 : Nat → Int32) (u_3920 : Nat → Int32) (u_3921 : Nat → Int64) =>
   if (r_3908 : Int32) = 0 then (
    lt1 (((-1) : Int32) - u_3916) fun (x_3956 : Int32) =>
    (x_3956, u_3915, F_h0_now, F_h0_name)
   ) else (
    lt9 (y_X12_readEnd h0_taped 900 u_3910 u_3911 u_3912 u_3913 u_3914 u_3915 u_3916 u_3917 F_h0_tape) fun (r_3961 : Int32) (u_3963 : Int32) (u_3964 : Int32) (u_3965 : Int32) (u_3966 : Int32) (u_3967 : Int32) (u_3968 : Int32) (u_3969 : Int32) (u_3970 : Int64) =>
    if (r_3961 : Int32) = 0 then (
     lt1 (((-1) : Int32) - u_3969) fun (x_3999 : Int32) =>
     (x_3999, u_3968, F_h0_now, F_h0_name)
    ) else (
     lt1 (y13_0 + 1) fun (x_4004 : Int32) =>
     y_X12_court_13 h0_taped F_h0_tape F_h0_now F_h0_name n13 x_4004 u_3963 u_3964 u_3965 u_3966 u_3967 u_3968 u_3969 u_3970 u_3918 u_3920 u_3919 u_3921
    )
   )
  )
theorem y_X12_court_13_s (h0_taped : Int32) (F_h0_tape : Nat → Int32) (F_h0_now : Nat → Int32) (F_h0_name : Nat → Int64) (n13 : Nat) (y13_0 : Int32) (y13_1 : Int32) (y13_2 : Int32) (y13_3 : Int32) (y13_4 : Int32) (y13_5 : Int32) (y13_6 : Int32) (y13_7 : Int32) (y13_8 : Int64) (y13_9 : Int32) (f13_10 : Nat → Int32) (f13_16 : Nat → Int32) (f13_17 : Nat → Int64) : y_X12_court_13 h0_taped F_h0_tape F_h0_now F_h0_name (n13 + 1) y13_0 y13_1 y13_2 y13_3 y13_4 y13_5 y13_6 y13_7 y13_8 y13_9 f13_10 f13_16 f13_17 = (
  if (y13_3 : Int32) = 0 then (
   y_X12_court_49 F_h0_name 90 y13_0 0 y13_6 f13_10 f13_17 F_h0_now
  ) else (
   lt13 (y_X12_readLine h0_taped 900 y13_1 y13_2 y13_3 y13_4 y13_5 y13_6 y13_7 y13_8 y13_9 f13_16 F_h0_tape f13_10 f13_17) fun (r_3908 : Int32) (u_3910 : Int32) (u_3911 : Int32) (u_3912 : Int32) (u_3913 : Int32) (u_3914 : Int32) (u_3915 : Int32) (u_3916 : Int32) (u_3917 : Int64) (u_3918 : Int32) (u_3919 : Nat → Int32) (u_3920 : Nat → Int32) (u_3921 : Nat → Int64) =>
   if (r_3908 : Int32) = 0 then (
    lt1 (((-1) : Int32) - u_3916) fun (x_3956 : Int32) =>
    (x_3956, u_3915, F_h0_now, F_h0_name)
   ) else (
    lt9 (y_X12_readEnd h0_taped 900 u_3910 u_3911 u_3912 u_3913 u_3914 u_3915 u_3916 u_3917 F_h0_tape) fun (r_3961 : Int32) (u_3963 : Int32) (u_3964 : Int32) (u_3965 : Int32) (u_3966 : Int32) (u_3967 : Int32) (u_3968 : Int32) (u_3969 : Int32) (u_3970 : Int64) =>
    if (r_3961 : Int32) = 0 then (
     lt1 (((-1) : Int32) - u_3969) fun (x_3999 : Int32) =>
     (x_3999, u_3968, F_h0_now, F_h0_name)
    ) else (
     lt1 (y13_0 + 1) fun (x_4004 : Int32) =>
     y_X12_court_13 h0_taped F_h0_tape F_h0_now F_h0_name n13 x_4004 u_3963 u_3964 u_3965 u_3966 u_3967 u_3968 u_3969 u_3970 u_3918 u_3920 u_3919 u_3921
    )
   )
  )) := rfl
def y_X12_court (h0_taped : Int32) (h0_number : Int32) (h0_sign : Int32) (h0_place : Int32) (h0_word : Int64) (h0_told : Int32) (F_h0_tape : Nat → Int32) (F_h0_read : Nat → Int32) (F_h0_onces : Nat → Int32) (F_h0_readName : Nat → Int64) (F_h0_now : Nat → Int32) (F_h0_name : Nat → Int64)  : Int32 × Int32 × (Nat → Int32) × (Nat → Int64) :=
  lt6 (y_X12_begin 900 h0_taped h0_number h0_sign h0_word F_h0_tape) fun (u_4007 : Int32) (u_4008 : Int32) (u_4009 : Int32) (u_4010 : Int32) (u_4011 : Int32) (u_4012 : Int64) =>
  lt2 (y_X12_startRead F_h0_read F_h0_onces) fun (u_4020 : Nat → Int32) (u_4021 : Nat → Int32) =>
  y_X12_court_13 h0_taped F_h0_tape F_h0_now F_h0_name 2830 0 u_4007 u_4008 u_4009 u_4010 u_4011 0 h0_place u_4012 h0_told u_4020 u_4021 F_h0_readName
theorem y_X12_court_s (h0_taped : Int32) (h0_number : Int32) (h0_sign : Int32) (h0_place : Int32) (h0_word : Int64) (h0_told : Int32) (F_h0_tape : Nat → Int32) (F_h0_read : Nat → Int32) (F_h0_onces : Nat → Int32) (F_h0_readName : Nat → Int64) (F_h0_now : Nat → Int32) (F_h0_name : Nat → Int64)  : y_X12_court h0_taped h0_number h0_sign h0_place h0_word h0_told F_h0_tape F_h0_read F_h0_onces F_h0_readName F_h0_now F_h0_name = (
  lt6 (y_X12_begin 900 h0_taped h0_number h0_sign h0_word F_h0_tape) fun (u_4007 : Int32) (u_4008 : Int32) (u_4009 : Int32) (u_4010 : Int32) (u_4011 : Int32) (u_4012 : Int64) =>
  lt2 (y_X12_startRead F_h0_read F_h0_onces) fun (u_4020 : Nat → Int32) (u_4021 : Nat → Int32) =>
  y_X12_court_13 h0_taped F_h0_tape F_h0_now F_h0_name 2830 0 u_4007 u_4008 u_4009 u_4010 u_4011 0 h0_place u_4012 h0_told u_4020 u_4021 F_h0_readName) := rfl
def y_X11_image_0 (F_h0_law_jurorName : Nat → Int64) (F_h0_images_0_law_jurorName : Nat → Int64) (F_h0_law_floorName : Nat → Int64) (F_h0_images_0_law_floorName : Nat → Int64) (F_h0_law_caseName : Nat → Int64) (F_h0_images_0_law_caseName : Nat → Int64) (F_h0_law_pitch : Nat → Int32) (F_h0_images_0_law_pitch : Nat → Int32) (F_h0_law_length : Nat → Int32) (F_h0_images_0_law_length : Nat → Int32) (F_h0_law_hands : Nat → Int32) (F_h0_images_0_law_hands : Nat → Int32) (F_h0_law_tune : Nat → Int32) (F_h0_images_0_law_tune : Nat → Int32) (F_h0_law_dull : Nat → Int32) (F_h0_images_0_law_dull : Nat → Int32) (F_h0_law_caseFloor : Nat → Int32) (F_h0_images_0_law_caseFloor : Nat → Int32) (F_h0_law_tuned : Nat → Int32) (F_h0_images_0_law_tuned : Nat → Int32)  : Int32 × (Nat → Int64) × (Nat → Int64) × (Nat → Int64) × (Nat → Int32) × (Nat → Int32) :=
  lt10 (y_X5_copyFrom F_h0_law_jurorName F_h0_images_0_law_jurorName F_h0_law_floorName F_h0_images_0_law_floorName F_h0_law_caseName F_h0_images_0_law_caseName F_h0_law_pitch F_h0_images_0_law_pitch F_h0_law_length F_h0_images_0_law_length F_h0_law_hands F_h0_images_0_law_hands F_h0_law_tune F_h0_images_0_law_tune F_h0_law_dull F_h0_images_0_law_dull F_h0_law_caseFloor F_h0_images_0_law_caseFloor F_h0_law_tuned F_h0_images_0_law_tuned) fun (u_32 : Nat → Int64) (u_33 : Nat → Int64) (u_34 : Nat → Int64) (u_35 : Nat → Int32) (u_36 : Nat → Int32) (u_37 : Nat → Int32) (u_38 : Nat → Int32) (u_39 : Nat → Int32) (u_40 : Nat → Int32) (u_41 : Nat → Int32) =>
  (1, u_32, u_33, u_34, u_36, u_39)
theorem y_X11_image_0_s (F_h0_law_jurorName : Nat → Int64) (F_h0_images_0_law_jurorName : Nat → Int64) (F_h0_law_floorName : Nat → Int64) (F_h0_images_0_law_floorName : Nat → Int64) (F_h0_law_caseName : Nat → Int64) (F_h0_images_0_law_caseName : Nat → Int64) (F_h0_law_pitch : Nat → Int32) (F_h0_images_0_law_pitch : Nat → Int32) (F_h0_law_length : Nat → Int32) (F_h0_images_0_law_length : Nat → Int32) (F_h0_law_hands : Nat → Int32) (F_h0_images_0_law_hands : Nat → Int32) (F_h0_law_tune : Nat → Int32) (F_h0_images_0_law_tune : Nat → Int32) (F_h0_law_dull : Nat → Int32) (F_h0_images_0_law_dull : Nat → Int32) (F_h0_law_caseFloor : Nat → Int32) (F_h0_images_0_law_caseFloor : Nat → Int32) (F_h0_law_tuned : Nat → Int32) (F_h0_images_0_law_tuned : Nat → Int32)  : y_X11_image_0 F_h0_law_jurorName F_h0_images_0_law_jurorName F_h0_law_floorName F_h0_images_0_law_floorName F_h0_law_caseName F_h0_images_0_law_caseName F_h0_law_pitch F_h0_images_0_law_pitch F_h0_law_length F_h0_images_0_law_length F_h0_law_hands F_h0_images_0_law_hands F_h0_law_tune F_h0_images_0_law_tune F_h0_law_dull F_h0_images_0_law_dull F_h0_law_caseFloor F_h0_images_0_law_caseFloor F_h0_law_tuned F_h0_images_0_law_tuned = (
  lt10 (y_X5_copyFrom F_h0_law_jurorName F_h0_images_0_law_jurorName F_h0_law_floorName F_h0_images_0_law_floorName F_h0_law_caseName F_h0_images_0_law_caseName F_h0_law_pitch F_h0_images_0_law_pitch F_h0_law_length F_h0_images_0_law_length F_h0_law_hands F_h0_images_0_law_hands F_h0_law_tune F_h0_images_0_law_tune F_h0_law_dull F_h0_images_0_law_dull F_h0_law_caseFloor F_h0_images_0_law_caseFloor F_h0_law_tuned F_h0_images_0_law_tuned) fun (u_32 : Nat → Int64) (u_33 : Nat → Int64) (u_34 : Nat → Int64) (u_35 : Nat → Int32) (u_36 : Nat → Int32) (u_37 : Nat → Int32) (u_38 : Nat → Int32) (u_39 : Nat → Int32) (u_40 : Nat → Int32) (u_41 : Nat → Int32) =>
  (1, u_32, u_33, u_34, u_36, u_39)) := rfl
def y_X11_image_1 (F_h0_law_jurorName : Nat → Int64) (F_h0_images_1_law_jurorName : Nat → Int64) (F_h0_law_floorName : Nat → Int64) (F_h0_images_1_law_floorName : Nat → Int64) (F_h0_law_caseName : Nat → Int64) (F_h0_images_1_law_caseName : Nat → Int64) (F_h0_law_pitch : Nat → Int32) (F_h0_images_1_law_pitch : Nat → Int32) (F_h0_law_length : Nat → Int32) (F_h0_images_1_law_length : Nat → Int32) (F_h0_law_hands : Nat → Int32) (F_h0_images_1_law_hands : Nat → Int32) (F_h0_law_tune : Nat → Int32) (F_h0_images_1_law_tune : Nat → Int32) (F_h0_law_dull : Nat → Int32) (F_h0_images_1_law_dull : Nat → Int32) (F_h0_law_caseFloor : Nat → Int32) (F_h0_images_1_law_caseFloor : Nat → Int32) (F_h0_law_tuned : Nat → Int32) (F_h0_images_1_law_tuned : Nat → Int32)  : Int32 × (Nat → Int64) × (Nat → Int64) × (Nat → Int64) × (Nat → Int32) × (Nat → Int32) :=
  lt10 (y_X5_copyFrom F_h0_law_jurorName F_h0_images_1_law_jurorName F_h0_law_floorName F_h0_images_1_law_floorName F_h0_law_caseName F_h0_images_1_law_caseName F_h0_law_pitch F_h0_images_1_law_pitch F_h0_law_length F_h0_images_1_law_length F_h0_law_hands F_h0_images_1_law_hands F_h0_law_tune F_h0_images_1_law_tune F_h0_law_dull F_h0_images_1_law_dull F_h0_law_caseFloor F_h0_images_1_law_caseFloor F_h0_law_tuned F_h0_images_1_law_tuned) fun (u_32 : Nat → Int64) (u_33 : Nat → Int64) (u_34 : Nat → Int64) (u_35 : Nat → Int32) (u_36 : Nat → Int32) (u_37 : Nat → Int32) (u_38 : Nat → Int32) (u_39 : Nat → Int32) (u_40 : Nat → Int32) (u_41 : Nat → Int32) =>
  (1, u_32, u_33, u_34, u_36, u_39)
theorem y_X11_image_1_s (F_h0_law_jurorName : Nat → Int64) (F_h0_images_1_law_jurorName : Nat → Int64) (F_h0_law_floorName : Nat → Int64) (F_h0_images_1_law_floorName : Nat → Int64) (F_h0_law_caseName : Nat → Int64) (F_h0_images_1_law_caseName : Nat → Int64) (F_h0_law_pitch : Nat → Int32) (F_h0_images_1_law_pitch : Nat → Int32) (F_h0_law_length : Nat → Int32) (F_h0_images_1_law_length : Nat → Int32) (F_h0_law_hands : Nat → Int32) (F_h0_images_1_law_hands : Nat → Int32) (F_h0_law_tune : Nat → Int32) (F_h0_images_1_law_tune : Nat → Int32) (F_h0_law_dull : Nat → Int32) (F_h0_images_1_law_dull : Nat → Int32) (F_h0_law_caseFloor : Nat → Int32) (F_h0_images_1_law_caseFloor : Nat → Int32) (F_h0_law_tuned : Nat → Int32) (F_h0_images_1_law_tuned : Nat → Int32)  : y_X11_image_1 F_h0_law_jurorName F_h0_images_1_law_jurorName F_h0_law_floorName F_h0_images_1_law_floorName F_h0_law_caseName F_h0_images_1_law_caseName F_h0_law_pitch F_h0_images_1_law_pitch F_h0_law_length F_h0_images_1_law_length F_h0_law_hands F_h0_images_1_law_hands F_h0_law_tune F_h0_images_1_law_tune F_h0_law_dull F_h0_images_1_law_dull F_h0_law_caseFloor F_h0_images_1_law_caseFloor F_h0_law_tuned F_h0_images_1_law_tuned = (
  lt10 (y_X5_copyFrom F_h0_law_jurorName F_h0_images_1_law_jurorName F_h0_law_floorName F_h0_images_1_law_floorName F_h0_law_caseName F_h0_images_1_law_caseName F_h0_law_pitch F_h0_images_1_law_pitch F_h0_law_length F_h0_images_1_law_length F_h0_law_hands F_h0_images_1_law_hands F_h0_law_tune F_h0_images_1_law_tune F_h0_law_dull F_h0_images_1_law_dull F_h0_law_caseFloor F_h0_images_1_law_caseFloor F_h0_law_tuned F_h0_images_1_law_tuned) fun (u_32 : Nat → Int64) (u_33 : Nat → Int64) (u_34 : Nat → Int64) (u_35 : Nat → Int32) (u_36 : Nat → Int32) (u_37 : Nat → Int32) (u_38 : Nat → Int32) (u_39 : Nat → Int32) (u_40 : Nat → Int32) (u_41 : Nat → Int32) =>
  (1, u_32, u_33, u_34, u_36, u_39)) := rfl
def y_X11_restore_0 (h0_images_0_filled : Int32) (h0_law_jurors : Int32) (h0_law_floors : Int32) (h0_law_cases : Int32) (h0_law_one : Int32) (h0_law_dent : Int32) (h0_images_0_law_jurors : Int32) (h0_images_0_law_floors : Int32) (h0_images_0_law_cases : Int32) (h0_images_0_law_one : Int32) (h0_images_0_law_dent : Int32) (F_h0_images_0_law_jurorName : Nat → Int64) (F_h0_law_jurorName : Nat → Int64) (F_h0_images_0_law_floorName : Nat → Int64) (F_h0_law_floorName : Nat → Int64) (F_h0_images_0_law_caseName : Nat → Int64) (F_h0_law_caseName : Nat → Int64) (F_h0_images_0_law_pitch : Nat → Int32) (F_h0_law_pitch : Nat → Int32) (F_h0_images_0_law_length : Nat → Int32) (F_h0_law_length : Nat → Int32) (F_h0_images_0_law_hands : Nat → Int32) (F_h0_law_hands : Nat → Int32) (F_h0_images_0_law_tune : Nat → Int32) (F_h0_law_tune : Nat → Int32) (F_h0_images_0_law_dull : Nat → Int32) (F_h0_law_dull : Nat → Int32) (F_h0_images_0_law_caseFloor : Nat → Int32) (F_h0_law_caseFloor : Nat → Int32) (F_h0_images_0_law_tuned : Nat → Int32) (F_h0_law_tuned : Nat → Int32)  : Int32 × Int32 × Int32 × Int32 × Int32 × Int32 × (Nat → Int64) × (Nat → Int64) × (Nat → Int64) × (Nat → Int32) × (Nat → Int32) :=
  if (h0_images_0_filled : Int32) = 0 then (
   (0, h0_law_jurors, h0_law_floors, h0_law_cases, h0_law_one, h0_law_dent, F_h0_law_jurorName, F_h0_law_floorName, F_h0_law_caseName, F_h0_law_length, F_h0_law_dull)
  ) else (
   lt10 (y_X5_copyFrom F_h0_images_0_law_jurorName F_h0_law_jurorName F_h0_images_0_law_floorName F_h0_law_floorName F_h0_images_0_law_caseName F_h0_law_caseName F_h0_images_0_law_pitch F_h0_law_pitch F_h0_images_0_law_length F_h0_law_length F_h0_images_0_law_hands F_h0_law_hands F_h0_images_0_law_tune F_h0_law_tune F_h0_images_0_law_dull F_h0_law_dull F_h0_images_0_law_caseFloor F_h0_law_caseFloor F_h0_images_0_law_tuned F_h0_law_tuned) fun (u_41 : Nat → Int64) (u_42 : Nat → Int64) (u_43 : Nat → Int64) (u_44 : Nat → Int32) (u_45 : Nat → Int32) (u_46 : Nat → Int32) (u_47 : Nat → Int32) (u_48 : Nat → Int32) (u_49 : Nat → Int32) (u_50 : Nat → Int32) =>
   (1, h0_images_0_law_jurors, h0_images_0_law_floors, h0_images_0_law_cases, h0_images_0_law_one, h0_images_0_law_dent, u_41, u_42, u_43, u_45, u_48)
  )
theorem y_X11_restore_0_s (h0_images_0_filled : Int32) (h0_law_jurors : Int32) (h0_law_floors : Int32) (h0_law_cases : Int32) (h0_law_one : Int32) (h0_law_dent : Int32) (h0_images_0_law_jurors : Int32) (h0_images_0_law_floors : Int32) (h0_images_0_law_cases : Int32) (h0_images_0_law_one : Int32) (h0_images_0_law_dent : Int32) (F_h0_images_0_law_jurorName : Nat → Int64) (F_h0_law_jurorName : Nat → Int64) (F_h0_images_0_law_floorName : Nat → Int64) (F_h0_law_floorName : Nat → Int64) (F_h0_images_0_law_caseName : Nat → Int64) (F_h0_law_caseName : Nat → Int64) (F_h0_images_0_law_pitch : Nat → Int32) (F_h0_law_pitch : Nat → Int32) (F_h0_images_0_law_length : Nat → Int32) (F_h0_law_length : Nat → Int32) (F_h0_images_0_law_hands : Nat → Int32) (F_h0_law_hands : Nat → Int32) (F_h0_images_0_law_tune : Nat → Int32) (F_h0_law_tune : Nat → Int32) (F_h0_images_0_law_dull : Nat → Int32) (F_h0_law_dull : Nat → Int32) (F_h0_images_0_law_caseFloor : Nat → Int32) (F_h0_law_caseFloor : Nat → Int32) (F_h0_images_0_law_tuned : Nat → Int32) (F_h0_law_tuned : Nat → Int32)  : y_X11_restore_0 h0_images_0_filled h0_law_jurors h0_law_floors h0_law_cases h0_law_one h0_law_dent h0_images_0_law_jurors h0_images_0_law_floors h0_images_0_law_cases h0_images_0_law_one h0_images_0_law_dent F_h0_images_0_law_jurorName F_h0_law_jurorName F_h0_images_0_law_floorName F_h0_law_floorName F_h0_images_0_law_caseName F_h0_law_caseName F_h0_images_0_law_pitch F_h0_law_pitch F_h0_images_0_law_length F_h0_law_length F_h0_images_0_law_hands F_h0_law_hands F_h0_images_0_law_tune F_h0_law_tune F_h0_images_0_law_dull F_h0_law_dull F_h0_images_0_law_caseFloor F_h0_law_caseFloor F_h0_images_0_law_tuned F_h0_law_tuned = (
  if (h0_images_0_filled : Int32) = 0 then (
   (0, h0_law_jurors, h0_law_floors, h0_law_cases, h0_law_one, h0_law_dent, F_h0_law_jurorName, F_h0_law_floorName, F_h0_law_caseName, F_h0_law_length, F_h0_law_dull)
  ) else (
   lt10 (y_X5_copyFrom F_h0_images_0_law_jurorName F_h0_law_jurorName F_h0_images_0_law_floorName F_h0_law_floorName F_h0_images_0_law_caseName F_h0_law_caseName F_h0_images_0_law_pitch F_h0_law_pitch F_h0_images_0_law_length F_h0_law_length F_h0_images_0_law_hands F_h0_law_hands F_h0_images_0_law_tune F_h0_law_tune F_h0_images_0_law_dull F_h0_law_dull F_h0_images_0_law_caseFloor F_h0_law_caseFloor F_h0_images_0_law_tuned F_h0_law_tuned) fun (u_41 : Nat → Int64) (u_42 : Nat → Int64) (u_43 : Nat → Int64) (u_44 : Nat → Int32) (u_45 : Nat → Int32) (u_46 : Nat → Int32) (u_47 : Nat → Int32) (u_48 : Nat → Int32) (u_49 : Nat → Int32) (u_50 : Nat → Int32) =>
   (1, h0_images_0_law_jurors, h0_images_0_law_floors, h0_images_0_law_cases, h0_images_0_law_one, h0_images_0_law_dent, u_41, u_42, u_43, u_45, u_48)
  )) := rfl
def y_X11_restore_1 (h0_images_1_filled : Int32) (h0_law_jurors : Int32) (h0_law_floors : Int32) (h0_law_cases : Int32) (h0_law_one : Int32) (h0_law_dent : Int32) (h0_images_1_law_jurors : Int32) (h0_images_1_law_floors : Int32) (h0_images_1_law_cases : Int32) (h0_images_1_law_one : Int32) (h0_images_1_law_dent : Int32) (F_h0_images_1_law_jurorName : Nat → Int64) (F_h0_law_jurorName : Nat → Int64) (F_h0_images_1_law_floorName : Nat → Int64) (F_h0_law_floorName : Nat → Int64) (F_h0_images_1_law_caseName : Nat → Int64) (F_h0_law_caseName : Nat → Int64) (F_h0_images_1_law_pitch : Nat → Int32) (F_h0_law_pitch : Nat → Int32) (F_h0_images_1_law_length : Nat → Int32) (F_h0_law_length : Nat → Int32) (F_h0_images_1_law_hands : Nat → Int32) (F_h0_law_hands : Nat → Int32) (F_h0_images_1_law_tune : Nat → Int32) (F_h0_law_tune : Nat → Int32) (F_h0_images_1_law_dull : Nat → Int32) (F_h0_law_dull : Nat → Int32) (F_h0_images_1_law_caseFloor : Nat → Int32) (F_h0_law_caseFloor : Nat → Int32) (F_h0_images_1_law_tuned : Nat → Int32) (F_h0_law_tuned : Nat → Int32)  : Int32 × Int32 × Int32 × Int32 × Int32 × Int32 × (Nat → Int64) × (Nat → Int64) × (Nat → Int64) × (Nat → Int32) × (Nat → Int32) :=
  if (h0_images_1_filled : Int32) = 0 then (
   (0, h0_law_jurors, h0_law_floors, h0_law_cases, h0_law_one, h0_law_dent, F_h0_law_jurorName, F_h0_law_floorName, F_h0_law_caseName, F_h0_law_length, F_h0_law_dull)
  ) else (
   lt10 (y_X5_copyFrom F_h0_images_1_law_jurorName F_h0_law_jurorName F_h0_images_1_law_floorName F_h0_law_floorName F_h0_images_1_law_caseName F_h0_law_caseName F_h0_images_1_law_pitch F_h0_law_pitch F_h0_images_1_law_length F_h0_law_length F_h0_images_1_law_hands F_h0_law_hands F_h0_images_1_law_tune F_h0_law_tune F_h0_images_1_law_dull F_h0_law_dull F_h0_images_1_law_caseFloor F_h0_law_caseFloor F_h0_images_1_law_tuned F_h0_law_tuned) fun (u_41 : Nat → Int64) (u_42 : Nat → Int64) (u_43 : Nat → Int64) (u_44 : Nat → Int32) (u_45 : Nat → Int32) (u_46 : Nat → Int32) (u_47 : Nat → Int32) (u_48 : Nat → Int32) (u_49 : Nat → Int32) (u_50 : Nat → Int32) =>
   (1, h0_images_1_law_jurors, h0_images_1_law_floors, h0_images_1_law_cases, h0_images_1_law_one, h0_images_1_law_dent, u_41, u_42, u_43, u_45, u_48)
  )
theorem y_X11_restore_1_s (h0_images_1_filled : Int32) (h0_law_jurors : Int32) (h0_law_floors : Int32) (h0_law_cases : Int32) (h0_law_one : Int32) (h0_law_dent : Int32) (h0_images_1_law_jurors : Int32) (h0_images_1_law_floors : Int32) (h0_images_1_law_cases : Int32) (h0_images_1_law_one : Int32) (h0_images_1_law_dent : Int32) (F_h0_images_1_law_jurorName : Nat → Int64) (F_h0_law_jurorName : Nat → Int64) (F_h0_images_1_law_floorName : Nat → Int64) (F_h0_law_floorName : Nat → Int64) (F_h0_images_1_law_caseName : Nat → Int64) (F_h0_law_caseName : Nat → Int64) (F_h0_images_1_law_pitch : Nat → Int32) (F_h0_law_pitch : Nat → Int32) (F_h0_images_1_law_length : Nat → Int32) (F_h0_law_length : Nat → Int32) (F_h0_images_1_law_hands : Nat → Int32) (F_h0_law_hands : Nat → Int32) (F_h0_images_1_law_tune : Nat → Int32) (F_h0_law_tune : Nat → Int32) (F_h0_images_1_law_dull : Nat → Int32) (F_h0_law_dull : Nat → Int32) (F_h0_images_1_law_caseFloor : Nat → Int32) (F_h0_law_caseFloor : Nat → Int32) (F_h0_images_1_law_tuned : Nat → Int32) (F_h0_law_tuned : Nat → Int32)  : y_X11_restore_1 h0_images_1_filled h0_law_jurors h0_law_floors h0_law_cases h0_law_one h0_law_dent h0_images_1_law_jurors h0_images_1_law_floors h0_images_1_law_cases h0_images_1_law_one h0_images_1_law_dent F_h0_images_1_law_jurorName F_h0_law_jurorName F_h0_images_1_law_floorName F_h0_law_floorName F_h0_images_1_law_caseName F_h0_law_caseName F_h0_images_1_law_pitch F_h0_law_pitch F_h0_images_1_law_length F_h0_law_length F_h0_images_1_law_hands F_h0_law_hands F_h0_images_1_law_tune F_h0_law_tune F_h0_images_1_law_dull F_h0_law_dull F_h0_images_1_law_caseFloor F_h0_law_caseFloor F_h0_images_1_law_tuned F_h0_law_tuned = (
  if (h0_images_1_filled : Int32) = 0 then (
   (0, h0_law_jurors, h0_law_floors, h0_law_cases, h0_law_one, h0_law_dent, F_h0_law_jurorName, F_h0_law_floorName, F_h0_law_caseName, F_h0_law_length, F_h0_law_dull)
  ) else (
   lt10 (y_X5_copyFrom F_h0_images_1_law_jurorName F_h0_law_jurorName F_h0_images_1_law_floorName F_h0_law_floorName F_h0_images_1_law_caseName F_h0_law_caseName F_h0_images_1_law_pitch F_h0_law_pitch F_h0_images_1_law_length F_h0_law_length F_h0_images_1_law_hands F_h0_law_hands F_h0_images_1_law_tune F_h0_law_tune F_h0_images_1_law_dull F_h0_law_dull F_h0_images_1_law_caseFloor F_h0_law_caseFloor F_h0_images_1_law_tuned F_h0_law_tuned) fun (u_41 : Nat → Int64) (u_42 : Nat → Int64) (u_43 : Nat → Int64) (u_44 : Nat → Int32) (u_45 : Nat → Int32) (u_46 : Nat → Int32) (u_47 : Nat → Int32) (u_48 : Nat → Int32) (u_49 : Nat → Int32) (u_50 : Nat → Int32) =>
   (1, h0_images_1_law_jurors, h0_images_1_law_floors, h0_images_1_law_cases, h0_images_1_law_one, h0_images_1_law_dent, u_41, u_42, u_43, u_45, u_48)
  )) := rfl
def y_X12_image_0_51 (F_h0_name : Nat → Int64) (F_h0_isKept : Nat → Int32) : Nat → Int32 → (Nat → Int32) → (Nat → Int64) → (Int32 × (Nat → Int32) × (Nat → Int64) × (Nat → Int32))
 | 0, _, _, _ => (0, (fun _ => 0), (fun _ => 0), (fun _ => 0))
 | n51 + 1, y51_0, f51_1, f51_19 =>
  if (19 : Int32) ≤ y51_0 then (
   lt1 (upd F_h0_isKept (0 : Int32).toNatClampNeg (vp_nar .boolean 1)) fun (g_667 : Nat → Int32) =>
   (1, f51_1, f51_19, g_667)
  ) else (
   lt1 ((0 : Int32) + y51_0) fun (x_670 : Int32) =>
   lt1 (F_h0_name (y51_0 : Int32).toNatClampNeg) fun (x_673 : Int64) =>
   lt1 (vp_updL f51_19 (x_670 : Int32).toNatClampNeg (x_673 : Int64)) fun (g_674 : Nat → Int64) =>
   lt1 (y51_0 + 1) fun (x_675 : Int32) =>
   y_X12_image_0_51 F_h0_name F_h0_isKept n51 x_675 f51_1 g_674
  )
theorem y_X12_image_0_51_s (F_h0_name : Nat → Int64) (F_h0_isKept : Nat → Int32) (n51 : Nat) (y51_0 : Int32) (f51_1 : Nat → Int32) (f51_19 : Nat → Int64) : y_X12_image_0_51 F_h0_name F_h0_isKept (n51 + 1) y51_0 f51_1 f51_19 = (
  if (19 : Int32) ≤ y51_0 then (
   lt1 (upd F_h0_isKept (0 : Int32).toNatClampNeg (vp_nar .boolean 1)) fun (g_667 : Nat → Int32) =>
   (1, f51_1, f51_19, g_667)
  ) else (
   lt1 ((0 : Int32) + y51_0) fun (x_670 : Int32) =>
   lt1 (F_h0_name (y51_0 : Int32).toNatClampNeg) fun (x_673 : Int64) =>
   lt1 (vp_updL f51_19 (x_670 : Int32).toNatClampNeg (x_673 : Int64)) fun (g_674 : Nat → Int64) =>
   lt1 (y51_0 + 1) fun (x_675 : Int32) =>
   y_X12_image_0_51 F_h0_name F_h0_isKept n51 x_675 f51_1 g_674
  )) := rfl
def y_X12_image_0_18 (F_h0_now : Nat → Int32) (F_h0_name : Nat → Int64) (F_h0_keptName : Nat → Int64) (F_h0_isKept : Nat → Int32) : Nat → Int32 → (Nat → Int32) → (Int32 × (Nat → Int32) × (Nat → Int64) × (Nat → Int32))
 | 0, _, _ => (0, (fun _ => 0), (fun _ => 0), (fun _ => 0))
 | n18 + 1, y18_0, f18_1 =>
  if (376 : Int32) ≤ y18_0 then (
   y_X12_image_0_51 F_h0_name F_h0_isKept 20 0 f18_1 F_h0_keptName
  ) else (
   lt1 ((0 : Int32) + y18_0) fun (x_715 : Int32) =>
   lt1 (F_h0_now (y18_0 : Int32).toNatClampNeg) fun (x_718 : Int32) =>
   lt1 (upd f18_1 (x_715 : Int32).toNatClampNeg (x_718 : Int32)) fun (g_719 : Nat → Int32) =>
   lt1 (y18_0 + 1) fun (x_737 : Int32) =>
   y_X12_image_0_18 F_h0_now F_h0_name F_h0_keptName F_h0_isKept n18 x_737 g_719
  )
theorem y_X12_image_0_18_s (F_h0_now : Nat → Int32) (F_h0_name : Nat → Int64) (F_h0_keptName : Nat → Int64) (F_h0_isKept : Nat → Int32) (n18 : Nat) (y18_0 : Int32) (f18_1 : Nat → Int32) : y_X12_image_0_18 F_h0_now F_h0_name F_h0_keptName F_h0_isKept (n18 + 1) y18_0 f18_1 = (
  if (376 : Int32) ≤ y18_0 then (
   y_X12_image_0_51 F_h0_name F_h0_isKept 20 0 f18_1 F_h0_keptName
  ) else (
   lt1 ((0 : Int32) + y18_0) fun (x_715 : Int32) =>
   lt1 (F_h0_now (y18_0 : Int32).toNatClampNeg) fun (x_718 : Int32) =>
   lt1 (upd f18_1 (x_715 : Int32).toNatClampNeg (x_718 : Int32)) fun (g_719 : Nat → Int32) =>
   lt1 (y18_0 + 1) fun (x_737 : Int32) =>
   y_X12_image_0_18 F_h0_now F_h0_name F_h0_keptName F_h0_isKept n18 x_737 g_719
  )) := rfl
def y_X12_image_0 (F_h0_kept : Nat → Int32) (F_h0_now : Nat → Int32) (F_h0_name : Nat → Int64) (F_h0_keptName : Nat → Int64) (F_h0_isKept : Nat → Int32)  : Int32 × (Nat → Int32) × (Nat → Int64) × (Nat → Int32) :=
  lt1 (y_X12_isIn 0 0 1) fun (r_741 : Int32) =>
  if (r_741 : Int32) = 0 then (
   (0, F_h0_kept, F_h0_keptName, F_h0_isKept)
  ) else (
   y_X12_image_0_18 F_h0_now F_h0_name F_h0_keptName F_h0_isKept 377 0 F_h0_kept
  )
theorem y_X12_image_0_s (F_h0_kept : Nat → Int32) (F_h0_now : Nat → Int32) (F_h0_name : Nat → Int64) (F_h0_keptName : Nat → Int64) (F_h0_isKept : Nat → Int32)  : y_X12_image_0 F_h0_kept F_h0_now F_h0_name F_h0_keptName F_h0_isKept = (
  lt1 (y_X12_isIn 0 0 1) fun (r_741 : Int32) =>
  if (r_741 : Int32) = 0 then (
   (0, F_h0_kept, F_h0_keptName, F_h0_isKept)
  ) else (
   y_X12_image_0_18 F_h0_now F_h0_name F_h0_keptName F_h0_isKept 377 0 F_h0_kept
  )) := rfl
def y_X12_image_1_51 (F_h0_name : Nat → Int64) (F_h0_isKept : Nat → Int32) : Nat → Int32 → (Nat → Int32) → (Nat → Int64) → (Int32 × (Nat → Int32) × (Nat → Int64) × (Nat → Int32))
 | 0, _, _, _ => (0, (fun _ => 0), (fun _ => 0), (fun _ => 0))
 | n51 + 1, y51_0, f51_1, f51_19 =>
  if (19 : Int32) ≤ y51_0 then (
   lt1 (upd F_h0_isKept (1 : Int32).toNatClampNeg (vp_nar .boolean 1)) fun (g_686 : Nat → Int32) =>
   (1, f51_1, f51_19, g_686)
  ) else (
   lt1 ((19 : Int32) + y51_0) fun (x_689 : Int32) =>
   lt1 (F_h0_name (y51_0 : Int32).toNatClampNeg) fun (x_692 : Int64) =>
   lt1 (vp_updL f51_19 (x_689 : Int32).toNatClampNeg (x_692 : Int64)) fun (g_693 : Nat → Int64) =>
   lt1 (y51_0 + 1) fun (x_694 : Int32) =>
   y_X12_image_1_51 F_h0_name F_h0_isKept n51 x_694 f51_1 g_693
  )
theorem y_X12_image_1_51_s (F_h0_name : Nat → Int64) (F_h0_isKept : Nat → Int32) (n51 : Nat) (y51_0 : Int32) (f51_1 : Nat → Int32) (f51_19 : Nat → Int64) : y_X12_image_1_51 F_h0_name F_h0_isKept (n51 + 1) y51_0 f51_1 f51_19 = (
  if (19 : Int32) ≤ y51_0 then (
   lt1 (upd F_h0_isKept (1 : Int32).toNatClampNeg (vp_nar .boolean 1)) fun (g_686 : Nat → Int32) =>
   (1, f51_1, f51_19, g_686)
  ) else (
   lt1 ((19 : Int32) + y51_0) fun (x_689 : Int32) =>
   lt1 (F_h0_name (y51_0 : Int32).toNatClampNeg) fun (x_692 : Int64) =>
   lt1 (vp_updL f51_19 (x_689 : Int32).toNatClampNeg (x_692 : Int64)) fun (g_693 : Nat → Int64) =>
   lt1 (y51_0 + 1) fun (x_694 : Int32) =>
   y_X12_image_1_51 F_h0_name F_h0_isKept n51 x_694 f51_1 g_693
  )) := rfl
def y_X12_image_1_18 (F_h0_now : Nat → Int32) (F_h0_name : Nat → Int64) (F_h0_keptName : Nat → Int64) (F_h0_isKept : Nat → Int32) : Nat → Int32 → (Nat → Int32) → (Int32 × (Nat → Int32) × (Nat → Int64) × (Nat → Int32))
 | 0, _, _ => (0, (fun _ => 0), (fun _ => 0), (fun _ => 0))
 | n18 + 1, y18_0, f18_1 =>
  if (376 : Int32) ≤ y18_0 then (
   y_X12_image_1_51 F_h0_name F_h0_isKept 20 0 f18_1 F_h0_keptName
  ) else (
   lt1 ((376 : Int32) + y18_0) fun (x_734 : Int32) =>
   lt1 (F_h0_now (y18_0 : Int32).toNatClampNeg) fun (x_737 : Int32) =>
   lt1 (upd f18_1 (x_734 : Int32).toNatClampNeg (x_737 : Int32)) fun (g_738 : Nat → Int32) =>
   lt1 (y18_0 + 1) fun (x_756 : Int32) =>
   y_X12_image_1_18 F_h0_now F_h0_name F_h0_keptName F_h0_isKept n18 x_756 g_738
  )
theorem y_X12_image_1_18_s (F_h0_now : Nat → Int32) (F_h0_name : Nat → Int64) (F_h0_keptName : Nat → Int64) (F_h0_isKept : Nat → Int32) (n18 : Nat) (y18_0 : Int32) (f18_1 : Nat → Int32) : y_X12_image_1_18 F_h0_now F_h0_name F_h0_keptName F_h0_isKept (n18 + 1) y18_0 f18_1 = (
  if (376 : Int32) ≤ y18_0 then (
   y_X12_image_1_51 F_h0_name F_h0_isKept 20 0 f18_1 F_h0_keptName
  ) else (
   lt1 ((376 : Int32) + y18_0) fun (x_734 : Int32) =>
   lt1 (F_h0_now (y18_0 : Int32).toNatClampNeg) fun (x_737 : Int32) =>
   lt1 (upd f18_1 (x_734 : Int32).toNatClampNeg (x_737 : Int32)) fun (g_738 : Nat → Int32) =>
   lt1 (y18_0 + 1) fun (x_756 : Int32) =>
   y_X12_image_1_18 F_h0_now F_h0_name F_h0_keptName F_h0_isKept n18 x_756 g_738
  )) := rfl
def y_X12_image_1 (F_h0_kept : Nat → Int32) (F_h0_now : Nat → Int32) (F_h0_name : Nat → Int64) (F_h0_keptName : Nat → Int64) (F_h0_isKept : Nat → Int32)  : Int32 × (Nat → Int32) × (Nat → Int64) × (Nat → Int32) :=
  lt1 (y_X12_isIn 1 0 1) fun (r_760 : Int32) =>
  if (r_760 : Int32) = 0 then (
   (0, F_h0_kept, F_h0_keptName, F_h0_isKept)
  ) else (
   y_X12_image_1_18 F_h0_now F_h0_name F_h0_keptName F_h0_isKept 377 0 F_h0_kept
  )
theorem y_X12_image_1_s (F_h0_kept : Nat → Int32) (F_h0_now : Nat → Int32) (F_h0_name : Nat → Int64) (F_h0_keptName : Nat → Int64) (F_h0_isKept : Nat → Int32)  : y_X12_image_1 F_h0_kept F_h0_now F_h0_name F_h0_keptName F_h0_isKept = (
  lt1 (y_X12_isIn 1 0 1) fun (r_760 : Int32) =>
  if (r_760 : Int32) = 0 then (
   (0, F_h0_kept, F_h0_keptName, F_h0_isKept)
  ) else (
   y_X12_image_1_18 F_h0_now F_h0_name F_h0_keptName F_h0_isKept 377 0 F_h0_kept
  )) := rfl
def y_X12_restore_0_60 (F_h0_keptName : Nat → Int64) : Nat → Int32 → (Nat → Int32) → (Nat → Int64) → (Int32 × (Nat → Int32) × (Nat → Int64))
 | 0, _, _, _ => (0, (fun _ => 0), (fun _ => 0))
 | n60 + 1, y60_0, f60_1, f60_10 =>
  if (19 : Int32) ≤ y60_0 then (
   (1, f60_1, f60_10)
  ) else (
   lt1 ((0 : Int32) + y60_0) fun (x_482 : Int32) =>
   lt1 (F_h0_keptName (x_482 : Int32).toNatClampNeg) fun (x_485 : Int64) =>
   lt1 (vp_updL f60_10 (y60_0 : Int32).toNatClampNeg (x_485 : Int64)) fun (g_486 : Nat → Int64) =>
   lt1 (y60_0 + 1) fun (x_487 : Int32) =>
   y_X12_restore_0_60 F_h0_keptName n60 x_487 f60_1 g_486
  )
theorem y_X12_restore_0_60_s (F_h0_keptName : Nat → Int64) (n60 : Nat) (y60_0 : Int32) (f60_1 : Nat → Int32) (f60_10 : Nat → Int64) : y_X12_restore_0_60 F_h0_keptName (n60 + 1) y60_0 f60_1 f60_10 = (
  if (19 : Int32) ≤ y60_0 then (
   (1, f60_1, f60_10)
  ) else (
   lt1 ((0 : Int32) + y60_0) fun (x_482 : Int32) =>
   lt1 (F_h0_keptName (x_482 : Int32).toNatClampNeg) fun (x_485 : Int64) =>
   lt1 (vp_updL f60_10 (y60_0 : Int32).toNatClampNeg (x_485 : Int64)) fun (g_486 : Nat → Int64) =>
   lt1 (y60_0 + 1) fun (x_487 : Int32) =>
   y_X12_restore_0_60 F_h0_keptName n60 x_487 f60_1 g_486
  )) := rfl
def y_X12_restore_0_27 (F_h0_kept : Nat → Int32) (F_h0_keptName : Nat → Int64) (F_h0_name : Nat → Int64) : Nat → Int32 → (Nat → Int32) → (Int32 × (Nat → Int32) × (Nat → Int64))
 | 0, _, _ => (0, (fun _ => 0), (fun _ => 0))
 | n27 + 1, y27_0, f27_1 =>
  if (376 : Int32) ≤ y27_0 then (
   y_X12_restore_0_60 F_h0_keptName 20 0 f27_1 F_h0_name
  ) else (
   lt1 ((0 : Int32) + y27_0) fun (x_518 : Int32) =>
   lt1 (F_h0_kept (x_518 : Int32).toNatClampNeg) fun (x_521 : Int32) =>
   lt1 (upd f27_1 (y27_0 : Int32).toNatClampNeg (x_521 : Int32)) fun (g_522 : Nat → Int32) =>
   lt1 (y27_0 + 1) fun (x_531 : Int32) =>
   y_X12_restore_0_27 F_h0_kept F_h0_keptName F_h0_name n27 x_531 g_522
  )
theorem y_X12_restore_0_27_s (F_h0_kept : Nat → Int32) (F_h0_keptName : Nat → Int64) (F_h0_name : Nat → Int64) (n27 : Nat) (y27_0 : Int32) (f27_1 : Nat → Int32) : y_X12_restore_0_27 F_h0_kept F_h0_keptName F_h0_name (n27 + 1) y27_0 f27_1 = (
  if (376 : Int32) ≤ y27_0 then (
   y_X12_restore_0_60 F_h0_keptName 20 0 f27_1 F_h0_name
  ) else (
   lt1 ((0 : Int32) + y27_0) fun (x_518 : Int32) =>
   lt1 (F_h0_kept (x_518 : Int32).toNatClampNeg) fun (x_521 : Int32) =>
   lt1 (upd f27_1 (y27_0 : Int32).toNatClampNeg (x_521 : Int32)) fun (g_522 : Nat → Int32) =>
   lt1 (y27_0 + 1) fun (x_531 : Int32) =>
   y_X12_restore_0_27 F_h0_kept F_h0_keptName F_h0_name n27 x_531 g_522
  )) := rfl
def y_X12_restore_0 (F_h0_isKept : Nat → Int32) (F_h0_now : Nat → Int32) (F_h0_kept : Nat → Int32) (F_h0_keptName : Nat → Int64) (F_h0_name : Nat → Int64)  : Int32 × (Nat → Int32) × (Nat → Int64) :=
  lt1 (y_X12_isIn 0 0 1) fun (r_534 : Int32) =>
  if (r_534 : Int32) = 0 then (
   (0, F_h0_now, F_h0_name)
  ) else (
   lt1 (F_h0_isKept (0 : Int32).toNatClampNeg) fun (x_542 : Int32) =>
   if (x_542 : Int32) = 0 then (
    (0, F_h0_now, F_h0_name)
   ) else (
    y_X12_restore_0_27 F_h0_kept F_h0_keptName F_h0_name 377 0 F_h0_now
   )
  )
theorem y_X12_restore_0_s (F_h0_isKept : Nat → Int32) (F_h0_now : Nat → Int32) (F_h0_kept : Nat → Int32) (F_h0_keptName : Nat → Int64) (F_h0_name : Nat → Int64)  : y_X12_restore_0 F_h0_isKept F_h0_now F_h0_kept F_h0_keptName F_h0_name = (
  lt1 (y_X12_isIn 0 0 1) fun (r_534 : Int32) =>
  if (r_534 : Int32) = 0 then (
   (0, F_h0_now, F_h0_name)
  ) else (
   lt1 (F_h0_isKept (0 : Int32).toNatClampNeg) fun (x_542 : Int32) =>
   if (x_542 : Int32) = 0 then (
    (0, F_h0_now, F_h0_name)
   ) else (
    y_X12_restore_0_27 F_h0_kept F_h0_keptName F_h0_name 377 0 F_h0_now
   )
  )) := rfl
def y_X12_restore_1_60 (F_h0_keptName : Nat → Int64) : Nat → Int32 → (Nat → Int32) → (Nat → Int64) → (Int32 × (Nat → Int32) × (Nat → Int64))
 | 0, _, _, _ => (0, (fun _ => 0), (fun _ => 0))
 | n60 + 1, y60_0, f60_1, f60_10 =>
  if (19 : Int32) ≤ y60_0 then (
   (1, f60_1, f60_10)
  ) else (
   lt1 ((19 : Int32) + y60_0) fun (x_482 : Int32) =>
   lt1 (F_h0_keptName (x_482 : Int32).toNatClampNeg) fun (x_485 : Int64) =>
   lt1 (vp_updL f60_10 (y60_0 : Int32).toNatClampNeg (x_485 : Int64)) fun (g_486 : Nat → Int64) =>
   lt1 (y60_0 + 1) fun (x_487 : Int32) =>
   y_X12_restore_1_60 F_h0_keptName n60 x_487 f60_1 g_486
  )
theorem y_X12_restore_1_60_s (F_h0_keptName : Nat → Int64) (n60 : Nat) (y60_0 : Int32) (f60_1 : Nat → Int32) (f60_10 : Nat → Int64) : y_X12_restore_1_60 F_h0_keptName (n60 + 1) y60_0 f60_1 f60_10 = (
  if (19 : Int32) ≤ y60_0 then (
   (1, f60_1, f60_10)
  ) else (
   lt1 ((19 : Int32) + y60_0) fun (x_482 : Int32) =>
   lt1 (F_h0_keptName (x_482 : Int32).toNatClampNeg) fun (x_485 : Int64) =>
   lt1 (vp_updL f60_10 (y60_0 : Int32).toNatClampNeg (x_485 : Int64)) fun (g_486 : Nat → Int64) =>
   lt1 (y60_0 + 1) fun (x_487 : Int32) =>
   y_X12_restore_1_60 F_h0_keptName n60 x_487 f60_1 g_486
  )) := rfl
def y_X12_restore_1_27 (F_h0_kept : Nat → Int32) (F_h0_keptName : Nat → Int64) (F_h0_name : Nat → Int64) : Nat → Int32 → (Nat → Int32) → (Int32 × (Nat → Int32) × (Nat → Int64))
 | 0, _, _ => (0, (fun _ => 0), (fun _ => 0))
 | n27 + 1, y27_0, f27_1 =>
  if (376 : Int32) ≤ y27_0 then (
   y_X12_restore_1_60 F_h0_keptName 20 0 f27_1 F_h0_name
  ) else (
   lt1 ((376 : Int32) + y27_0) fun (x_518 : Int32) =>
   lt1 (F_h0_kept (x_518 : Int32).toNatClampNeg) fun (x_521 : Int32) =>
   lt1 (upd f27_1 (y27_0 : Int32).toNatClampNeg (x_521 : Int32)) fun (g_522 : Nat → Int32) =>
   lt1 (y27_0 + 1) fun (x_531 : Int32) =>
   y_X12_restore_1_27 F_h0_kept F_h0_keptName F_h0_name n27 x_531 g_522
  )
theorem y_X12_restore_1_27_s (F_h0_kept : Nat → Int32) (F_h0_keptName : Nat → Int64) (F_h0_name : Nat → Int64) (n27 : Nat) (y27_0 : Int32) (f27_1 : Nat → Int32) : y_X12_restore_1_27 F_h0_kept F_h0_keptName F_h0_name (n27 + 1) y27_0 f27_1 = (
  if (376 : Int32) ≤ y27_0 then (
   y_X12_restore_1_60 F_h0_keptName 20 0 f27_1 F_h0_name
  ) else (
   lt1 ((376 : Int32) + y27_0) fun (x_518 : Int32) =>
   lt1 (F_h0_kept (x_518 : Int32).toNatClampNeg) fun (x_521 : Int32) =>
   lt1 (upd f27_1 (y27_0 : Int32).toNatClampNeg (x_521 : Int32)) fun (g_522 : Nat → Int32) =>
   lt1 (y27_0 + 1) fun (x_531 : Int32) =>
   y_X12_restore_1_27 F_h0_kept F_h0_keptName F_h0_name n27 x_531 g_522
  )) := rfl
def y_X12_restore_1 (F_h0_isKept : Nat → Int32) (F_h0_now : Nat → Int32) (F_h0_kept : Nat → Int32) (F_h0_keptName : Nat → Int64) (F_h0_name : Nat → Int64)  : Int32 × (Nat → Int32) × (Nat → Int64) :=
  lt1 (y_X12_isIn 1 0 1) fun (r_534 : Int32) =>
  if (r_534 : Int32) = 0 then (
   (0, F_h0_now, F_h0_name)
  ) else (
   lt1 (F_h0_isKept (1 : Int32).toNatClampNeg) fun (x_542 : Int32) =>
   if (x_542 : Int32) = 0 then (
    (0, F_h0_now, F_h0_name)
   ) else (
    y_X12_restore_1_27 F_h0_kept F_h0_keptName F_h0_name 377 0 F_h0_now
   )
  )
theorem y_X12_restore_1_s (F_h0_isKept : Nat → Int32) (F_h0_now : Nat → Int32) (F_h0_kept : Nat → Int32) (F_h0_keptName : Nat → Int64) (F_h0_name : Nat → Int64)  : y_X12_restore_1 F_h0_isKept F_h0_now F_h0_kept F_h0_keptName F_h0_name = (
  lt1 (y_X12_isIn 1 0 1) fun (r_534 : Int32) =>
  if (r_534 : Int32) = 0 then (
   (0, F_h0_now, F_h0_name)
  ) else (
   lt1 (F_h0_isKept (1 : Int32).toNatClampNeg) fun (x_542 : Int32) =>
   if (x_542 : Int32) = 0 then (
    (0, F_h0_now, F_h0_name)
   ) else (
    y_X12_restore_1_27 F_h0_kept F_h0_keptName F_h0_name 377 0 F_h0_now
   )
  )) := rfl
def y_X11_count (a1 : Int32) (h0_law_jurors : Int32) (h0_law_floors : Int32) (h0_law_cases : Int32) (h0_law_one : Int32) (h0_law_dent : Int32) (h0_tape_length : Int32)  : Int32 :=
  if (a1 : Int32) = 0 then (
   h0_law_jurors
  ) else (
   if (a1 : Int32) = 1 then (
    h0_law_floors
   ) else (
    if (a1 : Int32) = 2 then (
     h0_law_cases
    ) else (
     if (a1 : Int32) = 3 then (
      h0_law_one
     ) else (
      if (a1 : Int32) = 4 then (
       h0_law_dent
      ) else (
       if (a1 : Int32) = 5 then (
        h0_tape_length
       ) else (
        (-1)
       )
      )
     )
    )
   )
  )
theorem y_X11_count_s (a1 : Int32) (h0_law_jurors : Int32) (h0_law_floors : Int32) (h0_law_cases : Int32) (h0_law_one : Int32) (h0_law_dent : Int32) (h0_tape_length : Int32)  : y_X11_count a1 h0_law_jurors h0_law_floors h0_law_cases h0_law_one h0_law_dent h0_tape_length = (
  if (a1 : Int32) = 0 then (
   h0_law_jurors
  ) else (
   if (a1 : Int32) = 1 then (
    h0_law_floors
   ) else (
    if (a1 : Int32) = 2 then (
     h0_law_cases
    ) else (
     if (a1 : Int32) = 3 then (
      h0_law_one
     ) else (
      if (a1 : Int32) = 4 then (
       h0_law_dent
      ) else (
       if (a1 : Int32) = 5 then (
        h0_tape_length
       ) else (
        (-1)
       )
      )
     )
    )
   )
  )) := rfl
def y_X12_count (a1 : Int32) (h0_taped : Int32) (F_h0_now : Nat → Int32)  : Int32 :=
  if (a1 : Int32) = 0 then (
   lt1 (F_h0_now (0 : Int32).toNatClampNeg) fun (x_16 : Int32) =>
   x_16
  ) else (
   if (a1 : Int32) = 1 then (
    lt1 (F_h0_now (1 : Int32).toNatClampNeg) fun (x_19 : Int32) =>
    x_19
   ) else (
    if (a1 : Int32) = 2 then (
     lt1 (F_h0_now (2 : Int32).toNatClampNeg) fun (x_22 : Int32) =>
     x_22
    ) else (
     if (a1 : Int32) = 3 then (
      lt1 (F_h0_now (3 : Int32).toNatClampNeg) fun (x_25 : Int32) =>
      x_25
     ) else (
      if (a1 : Int32) = 4 then (
       lt1 (F_h0_now (4 : Int32).toNatClampNeg) fun (x_27 : Int32) =>
       x_27
      ) else (
       if (a1 : Int32) = 5 then (
        h0_taped
       ) else (
        (-1)
       )
      )
     )
    )
   )
  )
theorem y_X12_count_s (a1 : Int32) (h0_taped : Int32) (F_h0_now : Nat → Int32)  : y_X12_count a1 h0_taped F_h0_now = (
  if (a1 : Int32) = 0 then (
   lt1 (F_h0_now (0 : Int32).toNatClampNeg) fun (x_16 : Int32) =>
   x_16
  ) else (
   if (a1 : Int32) = 1 then (
    lt1 (F_h0_now (1 : Int32).toNatClampNeg) fun (x_19 : Int32) =>
    x_19
   ) else (
    if (a1 : Int32) = 2 then (
     lt1 (F_h0_now (2 : Int32).toNatClampNeg) fun (x_22 : Int32) =>
     x_22
    ) else (
     if (a1 : Int32) = 3 then (
      lt1 (F_h0_now (3 : Int32).toNatClampNeg) fun (x_25 : Int32) =>
      x_25
     ) else (
      if (a1 : Int32) = 4 then (
       lt1 (F_h0_now (4 : Int32).toNatClampNeg) fun (x_27 : Int32) =>
       x_27
      ) else (
       if (a1 : Int32) = 5 then (
        h0_taped
       ) else (
        (-1)
       )
      )
     )
    )
   )
  )) := rfl
def y_X5_lastsOf (a1 : Int32) (a2 : Int32) (F_h0_length : Nat → Int32) (F_h0_dull : Nat → Int32)  : Int32 :=
  lt1 (F_h0_length (a1 : Int32).toNatClampNeg) fun (x_7 : Int32) =>
  lt1 (F_h0_dull (a2 : Int32).toNatClampNeg) fun (x_8 : Int32) =>
  lt1 ((x_7 : Int32) - x_8) fun (x_9 : Int32) =>
  lt1 (if (1 : Int32) < x_9 then x_9 else 1) fun (x_10 : Int32) =>
  x_10
theorem y_X5_lastsOf_s (a1 : Int32) (a2 : Int32) (F_h0_length : Nat → Int32) (F_h0_dull : Nat → Int32)  : y_X5_lastsOf a1 a2 F_h0_length F_h0_dull = (
  lt1 (F_h0_length (a1 : Int32).toNatClampNeg) fun (x_7 : Int32) =>
  lt1 (F_h0_dull (a2 : Int32).toNatClampNeg) fun (x_8 : Int32) =>
  lt1 ((x_7 : Int32) - x_8) fun (x_9 : Int32) =>
  lt1 (if (1 : Int32) < x_9 then x_9 else 1) fun (x_10 : Int32) =>
  x_10) := rfl
def y_X11_isJuror (a1 : Int32) (h0_law_jurors : Int32)  : Int32 :=
  if (a1 : Int32) < 0 then (
   0
  ) else (
   if (h0_law_jurors : Int32) ≤ a1 then (
    0
   ) else (
    1
   )
  )
theorem y_X11_isJuror_s (a1 : Int32) (h0_law_jurors : Int32)  : y_X11_isJuror a1 h0_law_jurors = (
  if (a1 : Int32) < 0 then (
   0
  ) else (
   if (h0_law_jurors : Int32) ≤ a1 then (
    0
   ) else (
    1
   )
  )) := rfl
def y_X11_isFloor (a1 : Int32) (h0_law_floors : Int32)  : Int32 :=
  if (a1 : Int32) < 0 then (
   0
  ) else (
   if (h0_law_floors : Int32) ≤ a1 then (
    0
   ) else (
    1
   )
  )
theorem y_X11_isFloor_s (a1 : Int32) (h0_law_floors : Int32)  : y_X11_isFloor a1 h0_law_floors = (
  if (a1 : Int32) < 0 then (
   0
  ) else (
   if (h0_law_floors : Int32) ≤ a1 then (
    0
   ) else (
    1
   )
  )) := rfl
def y_X11_lasts (a1 : Int32) (a2 : Int32) (h0_law_jurors : Int32) (h0_law_floors : Int32) (F_h0_law_length : Nat → Int32) (F_h0_law_dull : Nat → Int32)  : Int32 :=
  lt1 (y_X11_isJuror a1 h0_law_jurors) fun (r_23 : Int32) =>
  if (r_23 : Int32) = 0 then (
   (-1)
  ) else (
   lt1 (y_X11_isFloor a2 h0_law_floors) fun (r_32 : Int32) =>
   if (r_32 : Int32) = 0 then (
    (-1)
   ) else (
    lt1 (y_X5_lastsOf a1 a2 F_h0_law_length F_h0_law_dull) fun (r_41 : Int32) =>
    r_41
   )
  )
theorem y_X11_lasts_s (a1 : Int32) (a2 : Int32) (h0_law_jurors : Int32) (h0_law_floors : Int32) (F_h0_law_length : Nat → Int32) (F_h0_law_dull : Nat → Int32)  : y_X11_lasts a1 a2 h0_law_jurors h0_law_floors F_h0_law_length F_h0_law_dull = (
  lt1 (y_X11_isJuror a1 h0_law_jurors) fun (r_23 : Int32) =>
  if (r_23 : Int32) = 0 then (
   (-1)
  ) else (
   lt1 (y_X11_isFloor a2 h0_law_floors) fun (r_32 : Int32) =>
   if (r_32 : Int32) = 0 then (
    (-1)
   ) else (
    lt1 (y_X5_lastsOf a1 a2 F_h0_law_length F_h0_law_dull) fun (r_41 : Int32) =>
    r_41
   )
  )) := rfl
def y_X12_isJuror (a1 : Int32) (F_h0_now : Nat → Int32)  : Int32 :=
  lt1 (F_h0_now (0 : Int32).toNatClampNeg) fun (x_18 : Int32) =>
  lt1 ((x_18 : Int32) - 1) fun (x_20 : Int32) =>
  lt1 (y_X12_isIn a1 0 x_20) fun (r_23 : Int32) =>
  if (r_23 : Int32) = 0 then (
   0
  ) else (
   1
  )
theorem y_X12_isJuror_s (a1 : Int32) (F_h0_now : Nat → Int32)  : y_X12_isJuror a1 F_h0_now = (
  lt1 (F_h0_now (0 : Int32).toNatClampNeg) fun (x_18 : Int32) =>
  lt1 ((x_18 : Int32) - 1) fun (x_20 : Int32) =>
  lt1 (y_X12_isIn a1 0 x_20) fun (r_23 : Int32) =>
  if (r_23 : Int32) = 0 then (
   0
  ) else (
   1
  )) := rfl
def y_X12_isFloor (a1 : Int32) (F_h0_now : Nat → Int32)  : Int32 :=
  lt1 (F_h0_now (1 : Int32).toNatClampNeg) fun (x_18 : Int32) =>
  lt1 ((x_18 : Int32) - 1) fun (x_20 : Int32) =>
  lt1 (y_X12_isIn a1 0 x_20) fun (r_23 : Int32) =>
  if (r_23 : Int32) = 0 then (
   0
  ) else (
   1
  )
theorem y_X12_isFloor_s (a1 : Int32) (F_h0_now : Nat → Int32)  : y_X12_isFloor a1 F_h0_now = (
  lt1 (F_h0_now (1 : Int32).toNatClampNeg) fun (x_18 : Int32) =>
  lt1 ((x_18 : Int32) - 1) fun (x_20 : Int32) =>
  lt1 (y_X12_isIn a1 0 x_20) fun (r_23 : Int32) =>
  if (r_23 : Int32) = 0 then (
   0
  ) else (
   1
  )) := rfl
def y_X12_lastsOf (a1 : Int32) (a2 : Int32) (F_h0_now : Nat → Int32)  : Int32 :=
  lt1 ((15 : Int32) + a1) fun (x_24 : Int32) =>
  lt1 (F_h0_now (x_24 : Int32).toNatClampNeg) fun (x_27 : Int32) =>
  lt1 ((40 : Int32) + a2) fun (x_28 : Int32) =>
  lt1 (F_h0_now (x_28 : Int32).toNatClampNeg) fun (x_31 : Int32) =>
  lt1 ((x_27 : Int32) - x_31) fun (x_32 : Int32) =>
  if (1 : Int32) ≤ x_32 then (
   lt1 ((15 : Int32) + a1) fun (x_36 : Int32) =>
   lt1 (F_h0_now (x_36 : Int32).toNatClampNeg) fun (x_39 : Int32) =>
   lt1 ((40 : Int32) + a2) fun (x_40 : Int32) =>
   lt1 (F_h0_now (x_40 : Int32).toNatClampNeg) fun (x_43 : Int32) =>
   lt1 ((x_39 : Int32) - x_43) fun (x_44 : Int32) =>
   x_44
  ) else (
   1
  )
theorem y_X12_lastsOf_s (a1 : Int32) (a2 : Int32) (F_h0_now : Nat → Int32)  : y_X12_lastsOf a1 a2 F_h0_now = (
  lt1 ((15 : Int32) + a1) fun (x_24 : Int32) =>
  lt1 (F_h0_now (x_24 : Int32).toNatClampNeg) fun (x_27 : Int32) =>
  lt1 ((40 : Int32) + a2) fun (x_28 : Int32) =>
  lt1 (F_h0_now (x_28 : Int32).toNatClampNeg) fun (x_31 : Int32) =>
  lt1 ((x_27 : Int32) - x_31) fun (x_32 : Int32) =>
  if (1 : Int32) ≤ x_32 then (
   lt1 ((15 : Int32) + a1) fun (x_36 : Int32) =>
   lt1 (F_h0_now (x_36 : Int32).toNatClampNeg) fun (x_39 : Int32) =>
   lt1 ((40 : Int32) + a2) fun (x_40 : Int32) =>
   lt1 (F_h0_now (x_40 : Int32).toNatClampNeg) fun (x_43 : Int32) =>
   lt1 ((x_39 : Int32) - x_43) fun (x_44 : Int32) =>
   x_44
  ) else (
   1
  )) := rfl
def y_X12_lasts (a1 : Int32) (a2 : Int32) (F_h0_now : Nat → Int32)  : Int32 :=
  lt1 (y_X12_isJuror a1 F_h0_now) fun (r_18 : Int32) =>
  if (r_18 : Int32) = 0 then (
   (-1)
  ) else (
   lt1 (y_X12_isFloor a2 F_h0_now) fun (r_25 : Int32) =>
   if (r_25 : Int32) = 0 then (
    (-1)
   ) else (
    lt1 (y_X12_lastsOf a1 a2 F_h0_now) fun (r_32 : Int32) =>
    r_32
   )
  )
theorem y_X12_lasts_s (a1 : Int32) (a2 : Int32) (F_h0_now : Nat → Int32)  : y_X12_lasts a1 a2 F_h0_now = (
  lt1 (y_X12_isJuror a1 F_h0_now) fun (r_18 : Int32) =>
  if (r_18 : Int32) = 0 then (
   (-1)
  ) else (
   lt1 (y_X12_isFloor a2 F_h0_now) fun (r_25 : Int32) =>
   if (r_25 : Int32) = 0 then (
    (-1)
   ) else (
    lt1 (y_X12_lastsOf a1 a2 F_h0_now) fun (r_32 : Int32) =>
    r_32
   )
  )) := rfl
def y_X8_isMeasure (kw1 : Nat)  : Int32 :=
  if (kw1 : Nat) = 22 then (
   1
  ) else (
   if (kw1 : Nat) = 23 then (
    1
   ) else (
    if (kw1 : Nat) = 24 then (
     1
    ) else (
     if (kw1 : Nat) = 25 then (
      1
     ) else (
      0
     )
    )
   )
  )
theorem y_X8_isMeasure_s (kw1 : Nat)  : y_X8_isMeasure kw1 = (
  if (kw1 : Nat) = 22 then (
   1
  ) else (
   if (kw1 : Nat) = 23 then (
    1
   ) else (
    if (kw1 : Nat) = 24 then (
     1
    ) else (
     if (kw1 : Nat) = 25 then (
      1
     ) else (
      0
     )
    )
   )
  )) := rfl
def y_X8_isPlain (kw1 : Nat)  : Int32 :=
  if (kw1 : Nat) = 18 then (
   1
  ) else (
   if (kw1 : Nat) = 19 then (
    1
   ) else (
    if (kw1 : Nat) = 20 then (
     1
    ) else (
     if (kw1 : Nat) = 21 then (
      1
     ) else (
      lt1 (y_X8_isMeasure kw1) fun (r_15 : Int32) =>
      if (r_15 : Int32) = 1 then (
       1
      ) else (
       0
      )
     )
    )
   )
  )
theorem y_X8_isPlain_s (kw1 : Nat)  : y_X8_isPlain kw1 = (
  if (kw1 : Nat) = 18 then (
   1
  ) else (
   if (kw1 : Nat) = 19 then (
    1
   ) else (
    if (kw1 : Nat) = 20 then (
     1
    ) else (
     if (kw1 : Nat) = 21 then (
      1
     ) else (
      lt1 (y_X8_isMeasure kw1) fun (r_15 : Int32) =>
      if (r_15 : Int32) = 1 then (
       1
      ) else (
       0
      )
     )
    )
   )
  )) := rfl
def y_X8_plainWord_2 (h0_reader_letters : Int64) (h0_reader_kind : Int32) : Nat → Int32 → (Option Nat)
 | 0, _ => none
 | n2 + 1, y2_0 =>
  if (26 : Int32) ≤ y2_0 then (
   none
  ) else (
   lt1 (y_X6_sees h0_reader_letters h0_reader_kind y2_0.toNatClampNeg) fun (r_126 : Int32) =>
   if (r_126 : Int32) = 0 then (
    lt1 (y2_0 + 1) fun (x_133 : Int32) =>
    y_X8_plainWord_2 h0_reader_letters h0_reader_kind n2 x_133
   ) else (
    lt1 (y_X8_isPlain y2_0.toNatClampNeg) fun (r_137 : Int32) =>
    if (r_137 : Int32) = 1 then (
     some y2_0.toNatClampNeg
    ) else (
     none
    )
   )
  )
theorem y_X8_plainWord_2_s (h0_reader_letters : Int64) (h0_reader_kind : Int32) (n2 : Nat) (y2_0 : Int32) : y_X8_plainWord_2 h0_reader_letters h0_reader_kind (n2 + 1) y2_0 = (
  if (26 : Int32) ≤ y2_0 then (
   none
  ) else (
   lt1 (y_X6_sees h0_reader_letters h0_reader_kind y2_0.toNatClampNeg) fun (r_126 : Int32) =>
   if (r_126 : Int32) = 0 then (
    lt1 (y2_0 + 1) fun (x_133 : Int32) =>
    y_X8_plainWord_2 h0_reader_letters h0_reader_kind n2 x_133
   ) else (
    lt1 (y_X8_isPlain y2_0.toNatClampNeg) fun (r_137 : Int32) =>
    if (r_137 : Int32) = 1 then (
     some y2_0.toNatClampNeg
    ) else (
     none
    )
   )
  )) := rfl
def y_X8_plainWord (h0_reader_letters : Int64) (h0_reader_kind : Int32)  : Option Nat :=
  y_X8_plainWord_2 h0_reader_letters h0_reader_kind 941 0
theorem y_X8_plainWord_s (h0_reader_letters : Int64) (h0_reader_kind : Int32)  : y_X8_plainWord h0_reader_letters h0_reader_kind = (
  y_X8_plainWord_2 h0_reader_letters h0_reader_kind 941 0) := rfl
def y_X8_seenSign (h0_reader_kind : Int32)  : Int32 :=
  lt1 (y_X6_seesSign 60 h0_reader_kind) fun (r_21 : Int32) =>
  if (r_21 : Int32) = 0 then (
   lt1 (y_X6_seesSign 62 h0_reader_kind) fun (r_29 : Int32) =>
   if (r_29 : Int32) = 0 then (
    61
   ) else (
    62
   )
  ) else (
   60
  )
theorem y_X8_seenSign_s (h0_reader_kind : Int32)  : y_X8_seenSign h0_reader_kind = (
  lt1 (y_X6_seesSign 60 h0_reader_kind) fun (r_21 : Int32) =>
  if (r_21 : Int32) = 0 then (
   lt1 (y_X6_seesSign 62 h0_reader_kind) fun (r_29 : Int32) =>
   if (r_29 : Int32) = 0 then (
    61
   ) else (
    62
   )
  ) else (
   60
  )) := rfl
def y_X8_readPlain (h0_reader_length : Int32) (h0_reader_faultKind : Int32) (h0_reader_faultAt : Int32) (h0_reader_letters : Int64) (h0_reader_mostBytes : Int32) (h0_reader_behind : Int32) (h0_reader_at : Int32) (h0_reader_kind : Int32) (h0_reader_number : Int32) (F_h0_reader_bytes : Nat → Int32) (r1_jurors : Int32) (r1_floors : Int32) (F_r1_floorName : Nat → Int64) (F_r1_jurorName : Nat → Int64) (kw2 : Nat)  : Int32 × Int32 × Int64 × Int32 × Int32 × Int32 × Int32 :=
  if (kw2 : Nat) = 21 then (
   lt1 (y_X5_floorNamed h0_reader_letters r1_floors F_r1_floorName) fun (r_328 : Int32) =>
   lt8 (y_X6_takeFound r_328 h0_reader_length h0_reader_faultKind h0_reader_faultAt h0_reader_letters h0_reader_mostBytes h0_reader_behind h0_reader_at h0_reader_kind h0_reader_number F_h0_reader_bytes) fun (r_332 : Int32) (u_334 : Int32) (u_335 : Int32) (u_336 : Int64) (u_337 : Int32) (u_338 : Int32) (u_339 : Int32) (u_340 : Int32) =>
   if (r_332 : Int32) = (-1) then (
    lt1 (y_X5_jurorNamed u_336 r1_jurors F_r1_jurorName) fun (r_366 : Int32) =>
    lt1 (y_X6_takeFound_br r_366 u_336 u_339) fun (r_370 : Int32) =>
    if (r_370 : Int32) = (-1) then (
     (u_334, u_335, u_336, u_337, u_338, u_339, u_340)
    ) else (
     (u_334, u_335, u_336, u_337, u_338, u_339, u_340)
    )
   ) else (
    lt1 (y_X5_jurorNamed u_336 r1_jurors F_r1_jurorName) fun (r_404 : Int32) =>
    lt8 (y_X6_takeFound r_404 h0_reader_length u_334 u_335 u_336 h0_reader_mostBytes u_337 u_338 u_339 u_340 F_h0_reader_bytes) fun (r_408 : Int32) (u_410 : Int32) (u_411 : Int32) (u_412 : Int64) (u_413 : Int32) (u_414 : Int32) (u_415 : Int32) (u_416 : Int32) =>
    if (r_408 : Int32) = (-1) then (
     (u_410, u_411, u_412, u_413, u_414, u_415, u_416)
    ) else (
     if u_410 = 0 then (
      (u_410, u_411, u_412, u_413, u_414, u_415, u_416)
     ) else (
      (u_410, u_411, u_412, u_413, u_414, u_415, u_416)
     )
    )
   )
  ) else (
   lt1 (y_X8_isMeasure kw2) fun (r_238 : Int32) =>
   if (r_238 : Int32) = 1 then (
    lt1 (y_X8_seenSign h0_reader_kind) fun (r_244 : Int32) =>
    lt7 (y_X6_takeSign r_244 h0_reader_length h0_reader_faultKind h0_reader_faultAt h0_reader_letters h0_reader_mostBytes h0_reader_behind h0_reader_at h0_reader_kind h0_reader_number F_h0_reader_bytes) fun (u_250 : Int32) (u_251 : Int32) (u_252 : Int64) (u_253 : Int32) (u_254 : Int32) (u_255 : Int32) (u_256 : Int32) =>
    lt8 (y_X6_takeNumber 0 999 h0_reader_length u_250 u_251 u_252 h0_reader_mostBytes u_253 u_254 u_255 u_256 F_h0_reader_bytes) fun (r_262 : Int32) (u_264 : Int32) (u_265 : Int32) (u_266 : Int64) (u_267 : Int32) (u_268 : Int32) (u_269 : Int32) (u_270 : Int32) =>
    if u_264 = 0 then (
     (u_264, u_265, u_266, u_267, u_268, u_269, u_270)
    ) else (
     (u_264, u_265, u_266, u_267, u_268, u_269, u_270)
    )
   ) else (
    if h0_reader_faultKind = 0 then (
     (h0_reader_faultKind, h0_reader_faultAt, h0_reader_letters, h0_reader_behind, h0_reader_at, h0_reader_kind, h0_reader_number)
    ) else (
     (h0_reader_faultKind, h0_reader_faultAt, h0_reader_letters, h0_reader_behind, h0_reader_at, h0_reader_kind, h0_reader_number)
    )
   )
  )
theorem y_X8_readPlain_s (h0_reader_length : Int32) (h0_reader_faultKind : Int32) (h0_reader_faultAt : Int32) (h0_reader_letters : Int64) (h0_reader_mostBytes : Int32) (h0_reader_behind : Int32) (h0_reader_at : Int32) (h0_reader_kind : Int32) (h0_reader_number : Int32) (F_h0_reader_bytes : Nat → Int32) (r1_jurors : Int32) (r1_floors : Int32) (F_r1_floorName : Nat → Int64) (F_r1_jurorName : Nat → Int64) (kw2 : Nat)  : y_X8_readPlain h0_reader_length h0_reader_faultKind h0_reader_faultAt h0_reader_letters h0_reader_mostBytes h0_reader_behind h0_reader_at h0_reader_kind h0_reader_number F_h0_reader_bytes r1_jurors r1_floors F_r1_floorName F_r1_jurorName kw2 = (
  if (kw2 : Nat) = 21 then (
   lt1 (y_X5_floorNamed h0_reader_letters r1_floors F_r1_floorName) fun (r_328 : Int32) =>
   lt8 (y_X6_takeFound r_328 h0_reader_length h0_reader_faultKind h0_reader_faultAt h0_reader_letters h0_reader_mostBytes h0_reader_behind h0_reader_at h0_reader_kind h0_reader_number F_h0_reader_bytes) fun (r_332 : Int32) (u_334 : Int32) (u_335 : Int32) (u_336 : Int64) (u_337 : Int32) (u_338 : Int32) (u_339 : Int32) (u_340 : Int32) =>
   if (r_332 : Int32) = (-1) then (
    lt1 (y_X5_jurorNamed u_336 r1_jurors F_r1_jurorName) fun (r_366 : Int32) =>
    lt1 (y_X6_takeFound_br r_366 u_336 u_339) fun (r_370 : Int32) =>
    if (r_370 : Int32) = (-1) then (
     (u_334, u_335, u_336, u_337, u_338, u_339, u_340)
    ) else (
     (u_334, u_335, u_336, u_337, u_338, u_339, u_340)
    )
   ) else (
    lt1 (y_X5_jurorNamed u_336 r1_jurors F_r1_jurorName) fun (r_404 : Int32) =>
    lt8 (y_X6_takeFound r_404 h0_reader_length u_334 u_335 u_336 h0_reader_mostBytes u_337 u_338 u_339 u_340 F_h0_reader_bytes) fun (r_408 : Int32) (u_410 : Int32) (u_411 : Int32) (u_412 : Int64) (u_413 : Int32) (u_414 : Int32) (u_415 : Int32) (u_416 : Int32) =>
    if (r_408 : Int32) = (-1) then (
     (u_410, u_411, u_412, u_413, u_414, u_415, u_416)
    ) else (
     if u_410 = 0 then (
      (u_410, u_411, u_412, u_413, u_414, u_415, u_416)
     ) else (
      (u_410, u_411, u_412, u_413, u_414, u_415, u_416)
     )
    )
   )
  ) else (
   lt1 (y_X8_isMeasure kw2) fun (r_238 : Int32) =>
   if (r_238 : Int32) = 1 then (
    lt1 (y_X8_seenSign h0_reader_kind) fun (r_244 : Int32) =>
    lt7 (y_X6_takeSign r_244 h0_reader_length h0_reader_faultKind h0_reader_faultAt h0_reader_letters h0_reader_mostBytes h0_reader_behind h0_reader_at h0_reader_kind h0_reader_number F_h0_reader_bytes) fun (u_250 : Int32) (u_251 : Int32) (u_252 : Int64) (u_253 : Int32) (u_254 : Int32) (u_255 : Int32) (u_256 : Int32) =>
    lt8 (y_X6_takeNumber 0 999 h0_reader_length u_250 u_251 u_252 h0_reader_mostBytes u_253 u_254 u_255 u_256 F_h0_reader_bytes) fun (r_262 : Int32) (u_264 : Int32) (u_265 : Int32) (u_266 : Int64) (u_267 : Int32) (u_268 : Int32) (u_269 : Int32) (u_270 : Int32) =>
    if u_264 = 0 then (
     (u_264, u_265, u_266, u_267, u_268, u_269, u_270)
    ) else (
     (u_264, u_265, u_266, u_267, u_268, u_269, u_270)
    )
   ) else (
    if h0_reader_faultKind = 0 then (
     (h0_reader_faultKind, h0_reader_faultAt, h0_reader_letters, h0_reader_behind, h0_reader_at, h0_reader_kind, h0_reader_number)
    ) else (
     (h0_reader_faultKind, h0_reader_faultAt, h0_reader_letters, h0_reader_behind, h0_reader_at, h0_reader_kind, h0_reader_number)
    )
   )
  )) := rfl
def y_X8_readOne_9 (h0_ones : Int32) (h0_reader_faultKind : Int32) (h0_reader_faultAt : Int32) (h0_reader_letters : Int64) (h0_reader_at : Int32) (h0_reader_kind : Int32)  : Int32 × Int32 × Int64 × Int32 :=
  lo (y_X8_plainWord h0_reader_letters h0_reader_kind) (
   lt1 (y_X6_sees h0_reader_letters h0_reader_kind 17) fun (r_112 : Int32) =>
   if (r_112 : Int32) = 0 then (
    lt1 (y_X6_seesSign 40 h0_reader_kind) fun (r_119 : Int32) =>
    if (r_119 : Int32) = 0 then (
     lt4 (y_X6_fail 1 h0_reader_faultKind h0_reader_faultAt h0_reader_letters h0_reader_at h0_reader_kind) fun (u_129 : Int32) (u_130 : Int32) (u_131 : Int64) (u_132 : Int32) =>
     (u_129, u_130, u_131, u_132)
    ) else (
     if (20 : Int32) ≤ h0_ones then (
      lt4 (y_X6_fail 4 h0_reader_faultKind h0_reader_faultAt h0_reader_letters h0_reader_at h0_reader_kind) fun (u_143 : Int32) (u_144 : Int32) (u_145 : Int64) (u_146 : Int32) =>
      (u_143, u_144, u_145, u_146)
     ) else (
      lt4 (y_X6_fail 4 h0_reader_faultKind h0_reader_faultAt h0_reader_letters h0_reader_at h0_reader_kind) fun (u_154 : Int32) (u_155 : Int32) (u_156 : Int64) (u_157 : Int32) =>
      (u_154, u_155, u_156, u_157)
     )
    )
   ) else (
    if (20 : Int32) ≤ h0_ones then (
     lt4 (y_X6_fail 4 h0_reader_faultKind h0_reader_faultAt h0_reader_letters h0_reader_at h0_reader_kind) fun (u_166 : Int32) (u_167 : Int32) (u_168 : Int64) (u_169 : Int32) =>
     (u_166, u_167, u_168, u_169)
    ) else (
     lt4 (y_X6_fail 4 h0_reader_faultKind h0_reader_faultAt h0_reader_letters h0_reader_at h0_reader_kind) fun (u_177 : Int32) (u_178 : Int32) (u_179 : Int64) (u_180 : Int32) =>
     (u_177, u_178, u_179, u_180)
    )
   )
  ) fun (n_184 : Nat) => (
   if (20 : Int32) ≤ h0_ones then (
    lt4 (y_X6_fail 4 h0_reader_faultKind h0_reader_faultAt h0_reader_letters h0_reader_at h0_reader_kind) fun (u_196 : Int32) (u_197 : Int32) (u_198 : Int64) (u_199 : Int32) =>
    (u_196, u_197, u_198, u_199)
   ) else (
    lt4 (y_X6_fail 4 h0_reader_faultKind h0_reader_faultAt h0_reader_letters h0_reader_at h0_reader_kind) fun (u_207 : Int32) (u_208 : Int32) (u_209 : Int64) (u_210 : Int32) =>
    (u_207, u_208, u_209, u_210)
   )
  )
theorem y_X8_readOne_9_s (h0_ones : Int32) (h0_reader_faultKind : Int32) (h0_reader_faultAt : Int32) (h0_reader_letters : Int64) (h0_reader_at : Int32) (h0_reader_kind : Int32)  : y_X8_readOne_9 h0_ones h0_reader_faultKind h0_reader_faultAt h0_reader_letters h0_reader_at h0_reader_kind = (
  lo (y_X8_plainWord h0_reader_letters h0_reader_kind) (
   lt1 (y_X6_sees h0_reader_letters h0_reader_kind 17) fun (r_112 : Int32) =>
   if (r_112 : Int32) = 0 then (
    lt1 (y_X6_seesSign 40 h0_reader_kind) fun (r_119 : Int32) =>
    if (r_119 : Int32) = 0 then (
     lt4 (y_X6_fail 1 h0_reader_faultKind h0_reader_faultAt h0_reader_letters h0_reader_at h0_reader_kind) fun (u_129 : Int32) (u_130 : Int32) (u_131 : Int64) (u_132 : Int32) =>
     (u_129, u_130, u_131, u_132)
    ) else (
     if (20 : Int32) ≤ h0_ones then (
      lt4 (y_X6_fail 4 h0_reader_faultKind h0_reader_faultAt h0_reader_letters h0_reader_at h0_reader_kind) fun (u_143 : Int32) (u_144 : Int32) (u_145 : Int64) (u_146 : Int32) =>
      (u_143, u_144, u_145, u_146)
     ) else (
      lt4 (y_X6_fail 4 h0_reader_faultKind h0_reader_faultAt h0_reader_letters h0_reader_at h0_reader_kind) fun (u_154 : Int32) (u_155 : Int32) (u_156 : Int64) (u_157 : Int32) =>
      (u_154, u_155, u_156, u_157)
     )
    )
   ) else (
    if (20 : Int32) ≤ h0_ones then (
     lt4 (y_X6_fail 4 h0_reader_faultKind h0_reader_faultAt h0_reader_letters h0_reader_at h0_reader_kind) fun (u_166 : Int32) (u_167 : Int32) (u_168 : Int64) (u_169 : Int32) =>
     (u_166, u_167, u_168, u_169)
    ) else (
     lt4 (y_X6_fail 4 h0_reader_faultKind h0_reader_faultAt h0_reader_letters h0_reader_at h0_reader_kind) fun (u_177 : Int32) (u_178 : Int32) (u_179 : Int64) (u_180 : Int32) =>
     (u_177, u_178, u_179, u_180)
    )
   )
  ) fun (n_184 : Nat) => (
   if (20 : Int32) ≤ h0_ones then (
    lt4 (y_X6_fail 4 h0_reader_faultKind h0_reader_faultAt h0_reader_letters h0_reader_at h0_reader_kind) fun (u_196 : Int32) (u_197 : Int32) (u_198 : Int64) (u_199 : Int32) =>
    (u_196, u_197, u_198, u_199)
   ) else (
    lt4 (y_X6_fail 4 h0_reader_faultKind h0_reader_faultAt h0_reader_letters h0_reader_at h0_reader_kind) fun (u_207 : Int32) (u_208 : Int32) (u_209 : Int64) (u_210 : Int32) =>
    (u_207, u_208, u_209, u_210)
   )
  )) := rfl
def y_X8_readAll_9_8 (h0_ones : Int32) (h0_reader_at : Int32) : Nat → Int32 → Int32 → Int32 → Int64 → Int32 → (Int32 × Int32 × Int64 × Int32)
 | 0, _, _, _, _, _ => (0, 0, 0, 0)
 | n8 + 1, y8_0, y8_1, y8_2, y8_3, y8_4 =>
  if (20 : Int32) ≤ y8_0 then (
   (y8_1, y8_2, y8_3, y8_4)
  ) else (
   lt1 (y_X6_takeIf_br y8_3 y8_4 16) fun (r_263 : Int32) =>
   if (r_263 : Int32) = 0 then (
    (y8_1, y8_2, y8_3, y8_4)
   ) else (
    lt4 (y_X8_readOne_9 h0_ones y8_1 y8_2 y8_3 h0_reader_at y8_4) fun (u_272 : Int32) (u_273 : Int32) (u_274 : Int64) (u_275 : Int32) =>
    lt1 (y8_0 + 1) fun (x_289 : Int32) =>
    y_X8_readAll_9_8 h0_ones h0_reader_at n8 x_289 u_272 u_273 u_274 u_275
   )
  )
theorem y_X8_readAll_9_8_s (h0_ones : Int32) (h0_reader_at : Int32) (n8 : Nat) (y8_0 : Int32) (y8_1 : Int32) (y8_2 : Int32) (y8_3 : Int64) (y8_4 : Int32) : y_X8_readAll_9_8 h0_ones h0_reader_at (n8 + 1) y8_0 y8_1 y8_2 y8_3 y8_4 = (
  if (20 : Int32) ≤ y8_0 then (
   (y8_1, y8_2, y8_3, y8_4)
  ) else (
   lt1 (y_X6_takeIf_br y8_3 y8_4 16) fun (r_263 : Int32) =>
   if (r_263 : Int32) = 0 then (
    (y8_1, y8_2, y8_3, y8_4)
   ) else (
    lt4 (y_X8_readOne_9 h0_ones y8_1 y8_2 y8_3 h0_reader_at y8_4) fun (u_272 : Int32) (u_273 : Int32) (u_274 : Int64) (u_275 : Int32) =>
    lt1 (y8_0 + 1) fun (x_289 : Int32) =>
    y_X8_readAll_9_8 h0_ones h0_reader_at n8 x_289 u_272 u_273 u_274 u_275
   )
  )) := rfl
def y_X8_readAll_9 (h0_ones : Int32) (h0_reader_faultKind : Int32) (h0_reader_faultAt : Int32) (h0_reader_letters : Int64) (h0_reader_at : Int32) (h0_reader_kind : Int32)  : Int32 × Int32 × Int64 × Int32 :=
  lt4 (y_X8_readOne_9 h0_ones h0_reader_faultKind h0_reader_faultAt h0_reader_letters h0_reader_at h0_reader_kind) fun (u_295 : Int32) (u_296 : Int32) (u_297 : Int64) (u_298 : Int32) =>
  y_X8_readAll_9_8 h0_ones h0_reader_at 21 0 u_295 u_296 u_297 u_298
theorem y_X8_readAll_9_s (h0_ones : Int32) (h0_reader_faultKind : Int32) (h0_reader_faultAt : Int32) (h0_reader_letters : Int64) (h0_reader_at : Int32) (h0_reader_kind : Int32)  : y_X8_readAll_9 h0_ones h0_reader_faultKind h0_reader_faultAt h0_reader_letters h0_reader_at h0_reader_kind = (
  lt4 (y_X8_readOne_9 h0_ones h0_reader_faultKind h0_reader_faultAt h0_reader_letters h0_reader_at h0_reader_kind) fun (u_295 : Int32) (u_296 : Int32) (u_297 : Int64) (u_298 : Int32) =>
  y_X8_readAll_9_8 h0_ones h0_reader_at 21 0 u_295 u_296 u_297 u_298) := rfl
def y_X8_readCond_9_8 (h0_ones : Int32) (h0_reader_at : Int32) : Nat → Int32 → Int32 → Int32 → Int64 → Int32 → (Int32 × Int32 × Int64 × Int32)
 | 0, _, _, _, _, _ => (0, 0, 0, 0)
 | n8 + 1, y8_0, y8_1, y8_2, y8_3, y8_4 =>
  if (20 : Int32) ≤ y8_0 then (
   (y8_1, y8_2, y8_3, y8_4)
  ) else (
   lt1 (y_X6_takeIf_br y8_3 y8_4 15) fun (r_334 : Int32) =>
   if (r_334 : Int32) = 0 then (
    (y8_1, y8_2, y8_3, y8_4)
   ) else (
    lt4 (y_X8_readAll_9 h0_ones y8_1 y8_2 y8_3 h0_reader_at y8_4) fun (u_343 : Int32) (u_344 : Int32) (u_345 : Int64) (u_346 : Int32) =>
    lt1 (y8_0 + 1) fun (x_368 : Int32) =>
    y_X8_readCond_9_8 h0_ones h0_reader_at n8 x_368 u_343 u_344 u_345 u_346
   )
  )
theorem y_X8_readCond_9_8_s (h0_ones : Int32) (h0_reader_at : Int32) (n8 : Nat) (y8_0 : Int32) (y8_1 : Int32) (y8_2 : Int32) (y8_3 : Int64) (y8_4 : Int32) : y_X8_readCond_9_8 h0_ones h0_reader_at (n8 + 1) y8_0 y8_1 y8_2 y8_3 y8_4 = (
  if (20 : Int32) ≤ y8_0 then (
   (y8_1, y8_2, y8_3, y8_4)
  ) else (
   lt1 (y_X6_takeIf_br y8_3 y8_4 15) fun (r_334 : Int32) =>
   if (r_334 : Int32) = 0 then (
    (y8_1, y8_2, y8_3, y8_4)
   ) else (
    lt4 (y_X8_readAll_9 h0_ones y8_1 y8_2 y8_3 h0_reader_at y8_4) fun (u_343 : Int32) (u_344 : Int32) (u_345 : Int64) (u_346 : Int32) =>
    lt1 (y8_0 + 1) fun (x_368 : Int32) =>
    y_X8_readCond_9_8 h0_ones h0_reader_at n8 x_368 u_343 u_344 u_345 u_346
   )
  )) := rfl
def y_X8_readCond_9 (h0_ones : Int32) (h0_reader_faultKind : Int32) (h0_reader_faultAt : Int32) (h0_reader_letters : Int64) (h0_reader_at : Int32) (h0_reader_kind : Int32)  : Int32 × Int32 × Int64 × Int32 :=
  lt4 (y_X8_readAll_9 h0_ones h0_reader_faultKind h0_reader_faultAt h0_reader_letters h0_reader_at h0_reader_kind) fun (u_374 : Int32) (u_375 : Int32) (u_376 : Int64) (u_377 : Int32) =>
  y_X8_readCond_9_8 h0_ones h0_reader_at 21 0 u_374 u_375 u_376 u_377
theorem y_X8_readCond_9_s (h0_ones : Int32) (h0_reader_faultKind : Int32) (h0_reader_faultAt : Int32) (h0_reader_letters : Int64) (h0_reader_at : Int32) (h0_reader_kind : Int32)  : y_X8_readCond_9 h0_ones h0_reader_faultKind h0_reader_faultAt h0_reader_letters h0_reader_at h0_reader_kind = (
  lt4 (y_X8_readAll_9 h0_ones h0_reader_faultKind h0_reader_faultAt h0_reader_letters h0_reader_at h0_reader_kind) fun (u_374 : Int32) (u_375 : Int32) (u_376 : Int64) (u_377 : Int32) =>
  y_X8_readCond_9_8 h0_ones h0_reader_at 21 0 u_374 u_375 u_376 u_377) := rfl
def y_X8_readOne_8 (h0_ones : Int32) (h0_reader_length : Int32) (h0_reader_faultKind : Int32) (h0_reader_faultAt : Int32) (h0_reader_letters : Int64) (h0_reader_mostBytes : Int32) (h0_reader_behind : Int32) (h0_reader_at : Int32) (h0_reader_kind : Int32) (h0_reader_number : Int32) (F_h0_reader_bytes : Nat → Int32) (r1_jurors : Int32) (r1_floors : Int32) (F_r1_floorName : Nat → Int64) (F_r1_jurorName : Nat → Int64)  : Int32 × Int32 × Int32 × Int64 × Int32 × Int32 × Int32 × Int32 :=
  lo (y_X8_plainWord h0_reader_letters h0_reader_kind) (
   lt1 (y_X6_sees h0_reader_letters h0_reader_kind 17) fun (r_238 : Int32) =>
   if (r_238 : Int32) = 0 then (
    lt1 (y_X6_seesSign 40 h0_reader_kind) fun (r_245 : Int32) =>
    if (r_245 : Int32) = 0 then (
     lt4 (y_X6_fail 1 h0_reader_faultKind h0_reader_faultAt h0_reader_letters h0_reader_at h0_reader_kind) fun (u_255 : Int32) (u_256 : Int32) (u_257 : Int64) (u_258 : Int32) =>
     (h0_ones, u_255, u_256, u_257, h0_reader_behind, h0_reader_at, u_258, h0_reader_number)
    ) else (
     if (20 : Int32) ≤ h0_ones then (
      lt4 (y_X6_fail 4 h0_reader_faultKind h0_reader_faultAt h0_reader_letters h0_reader_at h0_reader_kind) fun (u_270 : Int32) (u_271 : Int32) (u_272 : Int64) (u_273 : Int32) =>
      (h0_ones, u_270, u_271, u_272, h0_reader_behind, h0_reader_at, u_273, h0_reader_number)
     ) else (
      lt1 ((h0_ones : Int32) + 1) fun (x_280 : Int32) =>
      lt1 (y_X6_seesSign 40 h0_reader_kind) fun (r_283 : Int32) =>
      if (r_283 : Int32) = 0 then (
       lt5 (y_X6_advance h0_reader_length h0_reader_faultKind h0_reader_letters h0_reader_mostBytes h0_reader_behind h0_reader_at h0_reader_kind h0_reader_number F_h0_reader_bytes) fun (u_293 : Int64) (u_294 : Int32) (u_295 : Int32) (u_296 : Int32) (u_297 : Int32) =>
       lt4 (y_X8_readOne_9 x_280 h0_reader_faultKind h0_reader_faultAt u_293 u_295 u_296) fun (u_303 : Int32) (u_304 : Int32) (u_305 : Int64) (u_306 : Int32) =>
       (x_280, u_303, u_304, u_305, u_294, u_295, u_306, u_297)
      ) else (
       lt5 (y_X6_advance h0_reader_length h0_reader_faultKind h0_reader_letters h0_reader_mostBytes h0_reader_behind h0_reader_at h0_reader_kind h0_reader_number F_h0_reader_bytes) fun (u_323 : Int64) (u_324 : Int32) (u_325 : Int32) (u_326 : Int32) (u_327 : Int32) =>
       lt4 (y_X8_readCond_9 x_280 h0_reader_faultKind h0_reader_faultAt u_323 u_325 u_326) fun (u_333 : Int32) (u_334 : Int32) (u_335 : Int64) (u_336 : Int32) =>
       (x_280, u_333, u_334, u_335, u_324, u_325, u_336, u_327)
      )
     )
    )
   ) else (
    if (20 : Int32) ≤ h0_ones then (
     lt4 (y_X6_fail 4 h0_reader_faultKind h0_reader_faultAt h0_reader_letters h0_reader_at h0_reader_kind) fun (u_355 : Int32) (u_356 : Int32) (u_357 : Int64) (u_358 : Int32) =>
     (h0_ones, u_355, u_356, u_357, h0_reader_behind, h0_reader_at, u_358, h0_reader_number)
    ) else (
     lt1 ((h0_ones : Int32) + 1) fun (x_365 : Int32) =>
     lt1 (y_X6_seesSign 40 h0_reader_kind) fun (r_368 : Int32) =>
     if (r_368 : Int32) = 0 then (
      lt5 (y_X6_advance h0_reader_length h0_reader_faultKind h0_reader_letters h0_reader_mostBytes h0_reader_behind h0_reader_at h0_reader_kind h0_reader_number F_h0_reader_bytes) fun (u_378 : Int64) (u_379 : Int32) (u_380 : Int32) (u_381 : Int32) (u_382 : Int32) =>
      lt4 (y_X8_readOne_9 x_365 h0_reader_faultKind h0_reader_faultAt u_378 u_380 u_381) fun (u_388 : Int32) (u_389 : Int32) (u_390 : Int64) (u_391 : Int32) =>
      (x_365, u_388, u_389, u_390, u_379, u_380, u_391, u_382)
     ) else (
      (0, 0, 0, 0, 0, 0, 0, 0)
     )
    )
   )
  ) fun (n_406 : Nat) => (
   if (20 : Int32) ≤ h0_ones then (
    lt4 (y_X6_fail 4 h0_reader_faultKind h0_reader_faultAt h0_reader_letters h0_reader_at h0_reader_kind) fun (u_418 : Int32) (u_419 : Int32) (u_420 : Int64) (u_421 : Int32) =>
    (h0_ones, u_418, u_419, u_420, h0_reader_behind, h0_reader_at, u_421, h0_reader_number)
   ) else (
    lt1 ((h0_ones : Int32) + 1) fun (x_428 : Int32) =>
    lt1 (y_X6_seesSign 40 h0_reader_kind) fun (r_431 : Int32) =>
    if (r_431 : Int32) = 0 then (
     lt5 (y_X6_advance h0_reader_length h0_reader_faultKind h0_reader_letters h0_reader_mostBytes h0_reader_behind h0_reader_at h0_reader_kind h0_reader_number F_h0_reader_bytes) fun (u_441 : Int64) (u_442 : Int32) (u_443 : Int32) (u_444 : Int32) (u_445 : Int32) =>
     lt7 (y_X8_readPlain h0_reader_length h0_reader_faultKind h0_reader_faultAt u_441 h0_reader_mostBytes u_442 u_443 u_444 u_445 F_h0_reader_bytes r1_jurors r1_floors F_r1_floorName F_r1_jurorName n_406) fun (u_451 : Int32) (u_452 : Int32) (u_453 : Int64) (u_454 : Int32) (u_455 : Int32) (u_456 : Int32) (u_457 : Int32) =>
     (x_428, u_451, u_452, u_453, u_454, u_455, u_456, u_457)
    ) else (
     (0, 0, 0, 0, 0, 0, 0, 0)
    )
   )
  )
theorem y_X8_readOne_8_s (h0_ones : Int32) (h0_reader_length : Int32) (h0_reader_faultKind : Int32) (h0_reader_faultAt : Int32) (h0_reader_letters : Int64) (h0_reader_mostBytes : Int32) (h0_reader_behind : Int32) (h0_reader_at : Int32) (h0_reader_kind : Int32) (h0_reader_number : Int32) (F_h0_reader_bytes : Nat → Int32) (r1_jurors : Int32) (r1_floors : Int32) (F_r1_floorName : Nat → Int64) (F_r1_jurorName : Nat → Int64)  : y_X8_readOne_8 h0_ones h0_reader_length h0_reader_faultKind h0_reader_faultAt h0_reader_letters h0_reader_mostBytes h0_reader_behind h0_reader_at h0_reader_kind h0_reader_number F_h0_reader_bytes r1_jurors r1_floors F_r1_floorName F_r1_jurorName = (
  lo (y_X8_plainWord h0_reader_letters h0_reader_kind) (
   lt1 (y_X6_sees h0_reader_letters h0_reader_kind 17) fun (r_238 : Int32) =>
   if (r_238 : Int32) = 0 then (
    lt1 (y_X6_seesSign 40 h0_reader_kind) fun (r_245 : Int32) =>
    if (r_245 : Int32) = 0 then (
     lt4 (y_X6_fail 1 h0_reader_faultKind h0_reader_faultAt h0_reader_letters h0_reader_at h0_reader_kind) fun (u_255 : Int32) (u_256 : Int32) (u_257 : Int64) (u_258 : Int32) =>
     (h0_ones, u_255, u_256, u_257, h0_reader_behind, h0_reader_at, u_258, h0_reader_number)
    ) else (
     if (20 : Int32) ≤ h0_ones then (
      lt4 (y_X6_fail 4 h0_reader_faultKind h0_reader_faultAt h0_reader_letters h0_reader_at h0_reader_kind) fun (u_270 : Int32) (u_271 : Int32) (u_272 : Int64) (u_273 : Int32) =>
      (h0_ones, u_270, u_271, u_272, h0_reader_behind, h0_reader_at, u_273, h0_reader_number)
     ) else (
      lt1 ((h0_ones : Int32) + 1) fun (x_280 : Int32) =>
      lt1 (y_X6_seesSign 40 h0_reader_kind) fun (r_283 : Int32) =>
      if (r_283 : Int32) = 0 then (
       lt5 (y_X6_advance h0_reader_length h0_reader_faultKind h0_reader_letters h0_reader_mostBytes h0_reader_behind h0_reader_at h0_reader_kind h0_reader_number F_h0_reader_bytes) fun (u_293 : Int64) (u_294 : Int32) (u_295 : Int32) (u_296 : Int32) (u_297 : Int32) =>
       lt4 (y_X8_readOne_9 x_280 h0_reader_faultKind h0_reader_faultAt u_293 u_295 u_296) fun (u_303 : Int32) (u_304 : Int32) (u_305 : Int64) (u_306 : Int32) =>
       (x_280, u_303, u_304, u_305, u_294, u_295, u_306, u_297)
      ) else (
       lt5 (y_X6_advance h0_reader_length h0_reader_faultKind h0_reader_letters h0_reader_mostBytes h0_reader_behind h0_reader_at h0_reader_kind h0_reader_number F_h0_reader_bytes) fun (u_323 : Int64) (u_324 : Int32) (u_325 : Int32) (u_326 : Int32) (u_327 : Int32) =>
       lt4 (y_X8_readCond_9 x_280 h0_reader_faultKind h0_reader_faultAt u_323 u_325 u_326) fun (u_333 : Int32) (u_334 : Int32) (u_335 : Int64) (u_336 : Int32) =>
       (x_280, u_333, u_334, u_335, u_324, u_325, u_336, u_327)
      )
     )
    )
   ) else (
    if (20 : Int32) ≤ h0_ones then (
     lt4 (y_X6_fail 4 h0_reader_faultKind h0_reader_faultAt h0_reader_letters h0_reader_at h0_reader_kind) fun (u_355 : Int32) (u_356 : Int32) (u_357 : Int64) (u_358 : Int32) =>
     (h0_ones, u_355, u_356, u_357, h0_reader_behind, h0_reader_at, u_358, h0_reader_number)
    ) else (
     lt1 ((h0_ones : Int32) + 1) fun (x_365 : Int32) =>
     lt1 (y_X6_seesSign 40 h0_reader_kind) fun (r_368 : Int32) =>
     if (r_368 : Int32) = 0 then (
      lt5 (y_X6_advance h0_reader_length h0_reader_faultKind h0_reader_letters h0_reader_mostBytes h0_reader_behind h0_reader_at h0_reader_kind h0_reader_number F_h0_reader_bytes) fun (u_378 : Int64) (u_379 : Int32) (u_380 : Int32) (u_381 : Int32) (u_382 : Int32) =>
      lt4 (y_X8_readOne_9 x_365 h0_reader_faultKind h0_reader_faultAt u_378 u_380 u_381) fun (u_388 : Int32) (u_389 : Int32) (u_390 : Int64) (u_391 : Int32) =>
      (x_365, u_388, u_389, u_390, u_379, u_380, u_391, u_382)
     ) else (
      (0, 0, 0, 0, 0, 0, 0, 0)
     )
    )
   )
  ) fun (n_406 : Nat) => (
   if (20 : Int32) ≤ h0_ones then (
    lt4 (y_X6_fail 4 h0_reader_faultKind h0_reader_faultAt h0_reader_letters h0_reader_at h0_reader_kind) fun (u_418 : Int32) (u_419 : Int32) (u_420 : Int64) (u_421 : Int32) =>
    (h0_ones, u_418, u_419, u_420, h0_reader_behind, h0_reader_at, u_421, h0_reader_number)
   ) else (
    lt1 ((h0_ones : Int32) + 1) fun (x_428 : Int32) =>
    lt1 (y_X6_seesSign 40 h0_reader_kind) fun (r_431 : Int32) =>
    if (r_431 : Int32) = 0 then (
     lt5 (y_X6_advance h0_reader_length h0_reader_faultKind h0_reader_letters h0_reader_mostBytes h0_reader_behind h0_reader_at h0_reader_kind h0_reader_number F_h0_reader_bytes) fun (u_441 : Int64) (u_442 : Int32) (u_443 : Int32) (u_444 : Int32) (u_445 : Int32) =>
     lt7 (y_X8_readPlain h0_reader_length h0_reader_faultKind h0_reader_faultAt u_441 h0_reader_mostBytes u_442 u_443 u_444 u_445 F_h0_reader_bytes r1_jurors r1_floors F_r1_floorName F_r1_jurorName n_406) fun (u_451 : Int32) (u_452 : Int32) (u_453 : Int64) (u_454 : Int32) (u_455 : Int32) (u_456 : Int32) (u_457 : Int32) =>
     (x_428, u_451, u_452, u_453, u_454, u_455, u_456, u_457)
    ) else (
     (0, 0, 0, 0, 0, 0, 0, 0)
    )
   )
  )) := rfl
def y_X8_readAll_8_8 (h0_reader_length : Int32) (h0_reader_mostBytes : Int32) (F_h0_reader_bytes : Nat → Int32) (r1_jurors : Int32) (r1_floors : Int32) (F_r1_floorName : Nat → Int64) (F_r1_jurorName : Nat → Int64) : Nat → Int32 → Int32 → Int32 → Int32 → Int64 → Int32 → Int32 → Int32 → Int32 → (Int32 × Int32 × Int32 × Int64 × Int32 × Int32 × Int32 × Int32)
 | 0, _, _, _, _, _, _, _, _, _ => (0, 0, 0, 0, 0, 0, 0, 0)
 | n8 + 1, y8_0, y8_1, y8_2, y8_3, y8_4, y8_5, y8_6, y8_7, y8_8 =>
  if (20 : Int32) ≤ y8_0 then (
   (y8_1, y8_2, y8_3, y8_4, y8_5, y8_6, y8_7, y8_8)
  ) else (
   lt6 (y_X6_takeIf h0_reader_length y8_2 y8_4 h0_reader_mostBytes y8_5 y8_6 y8_7 y8_8 F_h0_reader_bytes 16) fun (r_1074 : Int32) (u_1076 : Int64) (u_1077 : Int32) (u_1078 : Int32) (u_1079 : Int32) (u_1080 : Int32) =>
   if (r_1074 : Int32) = 0 then (
    (y8_1, y8_2, y8_3, u_1076, u_1077, u_1078, u_1079, u_1080)
   ) else (
    lt8 (y_X8_readOne_8 y8_1 h0_reader_length y8_2 y8_3 u_1076 h0_reader_mostBytes u_1077 u_1078 u_1079 u_1080 F_h0_reader_bytes r1_jurors r1_floors F_r1_floorName F_r1_jurorName) fun (u_1099 : Int32) (u_1100 : Int32) (u_1101 : Int32) (u_1102 : Int64) (u_1103 : Int32) (u_1104 : Int32) (u_1105 : Int32) (u_1106 : Int32) =>
    if u_1100 = 0 then (
     lt1 (y8_0 + 1) fun (x_1135 : Int32) =>
     y_X8_readAll_8_8 h0_reader_length h0_reader_mostBytes F_h0_reader_bytes r1_jurors r1_floors F_r1_floorName F_r1_jurorName n8 x_1135 u_1099 u_1100 u_1101 u_1102 u_1103 u_1104 u_1105 u_1106
    ) else (
     lt1 (y8_0 + 1) fun (x_1150 : Int32) =>
     y_X8_readAll_8_8 h0_reader_length h0_reader_mostBytes F_h0_reader_bytes r1_jurors r1_floors F_r1_floorName F_r1_jurorName n8 x_1150 u_1099 u_1100 u_1101 u_1102 u_1103 u_1104 u_1105 u_1106
    )
   )
  )
theorem y_X8_readAll_8_8_s (h0_reader_length : Int32) (h0_reader_mostBytes : Int32) (F_h0_reader_bytes : Nat → Int32) (r1_jurors : Int32) (r1_floors : Int32) (F_r1_floorName : Nat → Int64) (F_r1_jurorName : Nat → Int64) (n8 : Nat) (y8_0 : Int32) (y8_1 : Int32) (y8_2 : Int32) (y8_3 : Int32) (y8_4 : Int64) (y8_5 : Int32) (y8_6 : Int32) (y8_7 : Int32) (y8_8 : Int32) : y_X8_readAll_8_8 h0_reader_length h0_reader_mostBytes F_h0_reader_bytes r1_jurors r1_floors F_r1_floorName F_r1_jurorName (n8 + 1) y8_0 y8_1 y8_2 y8_3 y8_4 y8_5 y8_6 y8_7 y8_8 = (
  if (20 : Int32) ≤ y8_0 then (
   (y8_1, y8_2, y8_3, y8_4, y8_5, y8_6, y8_7, y8_8)
  ) else (
   lt6 (y_X6_takeIf h0_reader_length y8_2 y8_4 h0_reader_mostBytes y8_5 y8_6 y8_7 y8_8 F_h0_reader_bytes 16) fun (r_1074 : Int32) (u_1076 : Int64) (u_1077 : Int32) (u_1078 : Int32) (u_1079 : Int32) (u_1080 : Int32) =>
   if (r_1074 : Int32) = 0 then (
    (y8_1, y8_2, y8_3, u_1076, u_1077, u_1078, u_1079, u_1080)
   ) else (
    lt8 (y_X8_readOne_8 y8_1 h0_reader_length y8_2 y8_3 u_1076 h0_reader_mostBytes u_1077 u_1078 u_1079 u_1080 F_h0_reader_bytes r1_jurors r1_floors F_r1_floorName F_r1_jurorName) fun (u_1099 : Int32) (u_1100 : Int32) (u_1101 : Int32) (u_1102 : Int64) (u_1103 : Int32) (u_1104 : Int32) (u_1105 : Int32) (u_1106 : Int32) =>
    if u_1100 = 0 then (
     lt1 (y8_0 + 1) fun (x_1135 : Int32) =>
     y_X8_readAll_8_8 h0_reader_length h0_reader_mostBytes F_h0_reader_bytes r1_jurors r1_floors F_r1_floorName F_r1_jurorName n8 x_1135 u_1099 u_1100 u_1101 u_1102 u_1103 u_1104 u_1105 u_1106
    ) else (
     lt1 (y8_0 + 1) fun (x_1150 : Int32) =>
     y_X8_readAll_8_8 h0_reader_length h0_reader_mostBytes F_h0_reader_bytes r1_jurors r1_floors F_r1_floorName F_r1_jurorName n8 x_1150 u_1099 u_1100 u_1101 u_1102 u_1103 u_1104 u_1105 u_1106
    )
   )
  )) := rfl
def y_X8_readAll_8 (h0_ones : Int32) (h0_reader_length : Int32) (h0_reader_faultKind : Int32) (h0_reader_faultAt : Int32) (h0_reader_letters : Int64) (h0_reader_mostBytes : Int32) (h0_reader_behind : Int32) (h0_reader_at : Int32) (h0_reader_kind : Int32) (h0_reader_number : Int32) (F_h0_reader_bytes : Nat → Int32) (r1_jurors : Int32) (r1_floors : Int32) (F_r1_floorName : Nat → Int64) (F_r1_jurorName : Nat → Int64)  : Int32 × Int32 × Int32 × Int64 × Int32 × Int32 × Int32 × Int32 :=
  lt8 (y_X8_readOne_8 h0_ones h0_reader_length h0_reader_faultKind h0_reader_faultAt h0_reader_letters h0_reader_mostBytes h0_reader_behind h0_reader_at h0_reader_kind h0_reader_number F_h0_reader_bytes r1_jurors r1_floors F_r1_floorName F_r1_jurorName) fun (u_1156 : Int32) (u_1157 : Int32) (u_1158 : Int32) (u_1159 : Int64) (u_1160 : Int32) (u_1161 : Int32) (u_1162 : Int32) (u_1163 : Int32) =>
  y_X8_readAll_8_8 h0_reader_length h0_reader_mostBytes F_h0_reader_bytes r1_jurors r1_floors F_r1_floorName F_r1_jurorName 21 0 u_1156 u_1157 u_1158 u_1159 u_1160 u_1161 u_1162 u_1163
theorem y_X8_readAll_8_s (h0_ones : Int32) (h0_reader_length : Int32) (h0_reader_faultKind : Int32) (h0_reader_faultAt : Int32) (h0_reader_letters : Int64) (h0_reader_mostBytes : Int32) (h0_reader_behind : Int32) (h0_reader_at : Int32) (h0_reader_kind : Int32) (h0_reader_number : Int32) (F_h0_reader_bytes : Nat → Int32) (r1_jurors : Int32) (r1_floors : Int32) (F_r1_floorName : Nat → Int64) (F_r1_jurorName : Nat → Int64)  : y_X8_readAll_8 h0_ones h0_reader_length h0_reader_faultKind h0_reader_faultAt h0_reader_letters h0_reader_mostBytes h0_reader_behind h0_reader_at h0_reader_kind h0_reader_number F_h0_reader_bytes r1_jurors r1_floors F_r1_floorName F_r1_jurorName = (
  lt8 (y_X8_readOne_8 h0_ones h0_reader_length h0_reader_faultKind h0_reader_faultAt h0_reader_letters h0_reader_mostBytes h0_reader_behind h0_reader_at h0_reader_kind h0_reader_number F_h0_reader_bytes r1_jurors r1_floors F_r1_floorName F_r1_jurorName) fun (u_1156 : Int32) (u_1157 : Int32) (u_1158 : Int32) (u_1159 : Int64) (u_1160 : Int32) (u_1161 : Int32) (u_1162 : Int32) (u_1163 : Int32) =>
  y_X8_readAll_8_8 h0_reader_length h0_reader_mostBytes F_h0_reader_bytes r1_jurors r1_floors F_r1_floorName F_r1_jurorName 21 0 u_1156 u_1157 u_1158 u_1159 u_1160 u_1161 u_1162 u_1163) := rfl
def y_X8_readCond_8_8 (h0_reader_length : Int32) (h0_reader_mostBytes : Int32) (F_h0_reader_bytes : Nat → Int32) (r1_jurors : Int32) (r1_floors : Int32) (F_r1_floorName : Nat → Int64) (F_r1_jurorName : Nat → Int64) : Nat → Int32 → Int32 → Int32 → Int32 → Int64 → Int32 → Int32 → Int32 → Int32 → (Int32 × Int32 × Int32 × Int64 × Int32 × Int32 × Int32 × Int32)
 | 0, _, _, _, _, _, _, _, _, _ => (0, 0, 0, 0, 0, 0, 0, 0)
 | n8 + 1, y8_0, y8_1, y8_2, y8_3, y8_4, y8_5, y8_6, y8_7, y8_8 =>
  if (20 : Int32) ≤ y8_0 then (
   (y8_1, y8_2, y8_3, y8_4, y8_5, y8_6, y8_7, y8_8)
  ) else (
   lt6 (y_X6_takeIf h0_reader_length y8_2 y8_4 h0_reader_mostBytes y8_5 y8_6 y8_7 y8_8 F_h0_reader_bytes 15) fun (r_1060 : Int32) (u_1062 : Int64) (u_1063 : Int32) (u_1064 : Int32) (u_1065 : Int32) (u_1066 : Int32) =>
   if (r_1060 : Int32) = 0 then (
    (y8_1, y8_2, y8_3, u_1062, u_1063, u_1064, u_1065, u_1066)
   ) else (
    lt8 (y_X8_readAll_8 y8_1 h0_reader_length y8_2 y8_3 u_1062 h0_reader_mostBytes u_1063 u_1064 u_1065 u_1066 F_h0_reader_bytes r1_jurors r1_floors F_r1_floorName F_r1_jurorName) fun (u_1085 : Int32) (u_1086 : Int32) (u_1087 : Int32) (u_1088 : Int64) (u_1089 : Int32) (u_1090 : Int32) (u_1091 : Int32) (u_1092 : Int32) =>
    if u_1086 = 0 then (
     lt1 (y8_0 + 1) fun (x_1120 : Int32) =>
     y_X8_readCond_8_8 h0_reader_length h0_reader_mostBytes F_h0_reader_bytes r1_jurors r1_floors F_r1_floorName F_r1_jurorName n8 x_1120 u_1085 u_1086 u_1087 u_1088 u_1089 u_1090 u_1091 u_1092
    ) else (
     lt1 (y8_0 + 1) fun (x_1135 : Int32) =>
     y_X8_readCond_8_8 h0_reader_length h0_reader_mostBytes F_h0_reader_bytes r1_jurors r1_floors F_r1_floorName F_r1_jurorName n8 x_1135 u_1085 u_1086 u_1087 u_1088 u_1089 u_1090 u_1091 u_1092
    )
   )
  )
theorem y_X8_readCond_8_8_s (h0_reader_length : Int32) (h0_reader_mostBytes : Int32) (F_h0_reader_bytes : Nat → Int32) (r1_jurors : Int32) (r1_floors : Int32) (F_r1_floorName : Nat → Int64) (F_r1_jurorName : Nat → Int64) (n8 : Nat) (y8_0 : Int32) (y8_1 : Int32) (y8_2 : Int32) (y8_3 : Int32) (y8_4 : Int64) (y8_5 : Int32) (y8_6 : Int32) (y8_7 : Int32) (y8_8 : Int32) : y_X8_readCond_8_8 h0_reader_length h0_reader_mostBytes F_h0_reader_bytes r1_jurors r1_floors F_r1_floorName F_r1_jurorName (n8 + 1) y8_0 y8_1 y8_2 y8_3 y8_4 y8_5 y8_6 y8_7 y8_8 = (
  if (20 : Int32) ≤ y8_0 then (
   (y8_1, y8_2, y8_3, y8_4, y8_5, y8_6, y8_7, y8_8)
  ) else (
   lt6 (y_X6_takeIf h0_reader_length y8_2 y8_4 h0_reader_mostBytes y8_5 y8_6 y8_7 y8_8 F_h0_reader_bytes 15) fun (r_1060 : Int32) (u_1062 : Int64) (u_1063 : Int32) (u_1064 : Int32) (u_1065 : Int32) (u_1066 : Int32) =>
   if (r_1060 : Int32) = 0 then (
    (y8_1, y8_2, y8_3, u_1062, u_1063, u_1064, u_1065, u_1066)
   ) else (
    lt8 (y_X8_readAll_8 y8_1 h0_reader_length y8_2 y8_3 u_1062 h0_reader_mostBytes u_1063 u_1064 u_1065 u_1066 F_h0_reader_bytes r1_jurors r1_floors F_r1_floorName F_r1_jurorName) fun (u_1085 : Int32) (u_1086 : Int32) (u_1087 : Int32) (u_1088 : Int64) (u_1089 : Int32) (u_1090 : Int32) (u_1091 : Int32) (u_1092 : Int32) =>
    if u_1086 = 0 then (
     lt1 (y8_0 + 1) fun (x_1120 : Int32) =>
     y_X8_readCond_8_8 h0_reader_length h0_reader_mostBytes F_h0_reader_bytes r1_jurors r1_floors F_r1_floorName F_r1_jurorName n8 x_1120 u_1085 u_1086 u_1087 u_1088 u_1089 u_1090 u_1091 u_1092
    ) else (
     lt1 (y8_0 + 1) fun (x_1135 : Int32) =>
     y_X8_readCond_8_8 h0_reader_length h0_reader_mostBytes F_h0_reader_bytes r1_jurors r1_floors F_r1_floorName F_r1_jurorName n8 x_1135 u_1085 u_1086 u_1087 u_1088 u_1089 u_1090 u_1091 u_1092
    )
   )
  )) := rfl
def y_X8_readCond_8 (h0_ones : Int32) (h0_reader_length : Int32) (h0_reader_faultKind : Int32) (h0_reader_faultAt : Int32) (h0_reader_letters : Int64) (h0_reader_mostBytes : Int32) (h0_reader_behind : Int32) (h0_reader_at : Int32) (h0_reader_kind : Int32) (h0_reader_number : Int32) (F_h0_reader_bytes : Nat → Int32) (r1_jurors : Int32) (r1_floors : Int32) (F_r1_floorName : Nat → Int64) (F_r1_jurorName : Nat → Int64)  : Int32 × Int32 × Int32 × Int64 × Int32 × Int32 × Int32 × Int32 :=
  lt8 (y_X8_readAll_8 h0_ones h0_reader_length h0_reader_faultKind h0_reader_faultAt h0_reader_letters h0_reader_mostBytes h0_reader_behind h0_reader_at h0_reader_kind h0_reader_number F_h0_reader_bytes r1_jurors r1_floors F_r1_floorName F_r1_jurorName) fun (u_1141 : Int32) (u_1142 : Int32) (u_1143 : Int32) (u_1144 : Int64) (u_1145 : Int32) (u_1146 : Int32) (u_1147 : Int32) (u_1148 : Int32) =>
  y_X8_readCond_8_8 h0_reader_length h0_reader_mostBytes F_h0_reader_bytes r1_jurors r1_floors F_r1_floorName F_r1_jurorName 21 0 u_1141 u_1142 u_1143 u_1144 u_1145 u_1146 u_1147 u_1148
theorem y_X8_readCond_8_s (h0_ones : Int32) (h0_reader_length : Int32) (h0_reader_faultKind : Int32) (h0_reader_faultAt : Int32) (h0_reader_letters : Int64) (h0_reader_mostBytes : Int32) (h0_reader_behind : Int32) (h0_reader_at : Int32) (h0_reader_kind : Int32) (h0_reader_number : Int32) (F_h0_reader_bytes : Nat → Int32) (r1_jurors : Int32) (r1_floors : Int32) (F_r1_floorName : Nat → Int64) (F_r1_jurorName : Nat → Int64)  : y_X8_readCond_8 h0_ones h0_reader_length h0_reader_faultKind h0_reader_faultAt h0_reader_letters h0_reader_mostBytes h0_reader_behind h0_reader_at h0_reader_kind h0_reader_number F_h0_reader_bytes r1_jurors r1_floors F_r1_floorName F_r1_jurorName = (
  lt8 (y_X8_readAll_8 h0_ones h0_reader_length h0_reader_faultKind h0_reader_faultAt h0_reader_letters h0_reader_mostBytes h0_reader_behind h0_reader_at h0_reader_kind h0_reader_number F_h0_reader_bytes r1_jurors r1_floors F_r1_floorName F_r1_jurorName) fun (u_1141 : Int32) (u_1142 : Int32) (u_1143 : Int32) (u_1144 : Int64) (u_1145 : Int32) (u_1146 : Int32) (u_1147 : Int32) (u_1148 : Int32) =>
  y_X8_readCond_8_8 h0_reader_length h0_reader_mostBytes F_h0_reader_bytes r1_jurors r1_floors F_r1_floorName F_r1_jurorName 21 0 u_1141 u_1142 u_1143 u_1144 u_1145 u_1146 u_1147 u_1148) := rfl
def y_X8_readOne_7 (h0_ones : Int32) (h0_reader_length : Int32) (h0_reader_faultKind : Int32) (h0_reader_faultAt : Int32) (h0_reader_letters : Int64) (h0_reader_mostBytes : Int32) (h0_reader_behind : Int32) (h0_reader_at : Int32) (h0_reader_kind : Int32) (h0_reader_number : Int32) (F_h0_reader_bytes : Nat → Int32) (r1_jurors : Int32) (r1_floors : Int32) (F_r1_floorName : Nat → Int64) (F_r1_jurorName : Nat → Int64)  : Int32 × Int32 × Int32 × Int64 × Int32 × Int32 × Int32 × Int32 :=
  lo (y_X8_plainWord h0_reader_letters h0_reader_kind) (
   lt1 (y_X6_sees h0_reader_letters h0_reader_kind 17) fun (r_322 : Int32) =>
   if (r_322 : Int32) = 0 then (
    lt1 (y_X6_seesSign 40 h0_reader_kind) fun (r_329 : Int32) =>
    if (r_329 : Int32) = 0 then (
     lt4 (y_X6_fail 1 h0_reader_faultKind h0_reader_faultAt h0_reader_letters h0_reader_at h0_reader_kind) fun (u_339 : Int32) (u_340 : Int32) (u_341 : Int64) (u_342 : Int32) =>
     (h0_ones, u_339, u_340, u_341, h0_reader_behind, h0_reader_at, u_342, h0_reader_number)
    ) else (
     if (20 : Int32) ≤ h0_ones then (
      lt4 (y_X6_fail 4 h0_reader_faultKind h0_reader_faultAt h0_reader_letters h0_reader_at h0_reader_kind) fun (u_354 : Int32) (u_355 : Int32) (u_356 : Int64) (u_357 : Int32) =>
      (h0_ones, u_354, u_355, u_356, h0_reader_behind, h0_reader_at, u_357, h0_reader_number)
     ) else (
      lt1 ((h0_ones : Int32) + 1) fun (x_364 : Int32) =>
      lt1 (y_X6_seesSign 40 h0_reader_kind) fun (r_367 : Int32) =>
      if (r_367 : Int32) = 0 then (
       lt5 (y_X6_advance h0_reader_length h0_reader_faultKind h0_reader_letters h0_reader_mostBytes h0_reader_behind h0_reader_at h0_reader_kind h0_reader_number F_h0_reader_bytes) fun (u_377 : Int64) (u_378 : Int32) (u_379 : Int32) (u_380 : Int32) (u_381 : Int32) =>
       lt8 (y_X8_readOne_8 x_364 h0_reader_length h0_reader_faultKind h0_reader_faultAt u_377 h0_reader_mostBytes u_378 u_379 u_380 u_381 F_h0_reader_bytes r1_jurors r1_floors F_r1_floorName F_r1_jurorName) fun (u_387 : Int32) (u_388 : Int32) (u_389 : Int32) (u_390 : Int64) (u_391 : Int32) (u_392 : Int32) (u_393 : Int32) (u_394 : Int32) =>
       if u_388 = 0 then (
        (u_387, u_388, u_389, u_390, u_391, u_392, u_393, u_394)
       ) else (
        (u_387, u_388, u_389, u_390, u_391, u_392, u_393, u_394)
       )
      ) else (
       lt5 (y_X6_advance h0_reader_length h0_reader_faultKind h0_reader_letters h0_reader_mostBytes h0_reader_behind h0_reader_at h0_reader_kind h0_reader_number F_h0_reader_bytes) fun (u_440 : Int64) (u_441 : Int32) (u_442 : Int32) (u_443 : Int32) (u_444 : Int32) =>
       lt8 (y_X8_readCond_8 x_364 h0_reader_length h0_reader_faultKind h0_reader_faultAt u_440 h0_reader_mostBytes u_441 u_442 u_443 u_444 F_h0_reader_bytes r1_jurors r1_floors F_r1_floorName F_r1_jurorName) fun (u_450 : Int32) (u_451 : Int32) (u_452 : Int32) (u_453 : Int64) (u_454 : Int32) (u_455 : Int32) (u_456 : Int32) (u_457 : Int32) =>
       lt7 (y_X6_takeSign 41 h0_reader_length u_451 u_452 u_453 h0_reader_mostBytes u_454 u_455 u_456 u_457 F_h0_reader_bytes) fun (u_475 : Int32) (u_476 : Int32) (u_477 : Int64) (u_478 : Int32) (u_479 : Int32) (u_480 : Int32) (u_481 : Int32) =>
       (u_450, u_475, u_476, u_477, u_478, u_479, u_480, u_481)
      )
     )
    )
   ) else (
    if (20 : Int32) ≤ h0_ones then (
     lt4 (y_X6_fail 4 h0_reader_faultKind h0_reader_faultAt h0_reader_letters h0_reader_at h0_reader_kind) fun (u_493 : Int32) (u_494 : Int32) (u_495 : Int64) (u_496 : Int32) =>
     (h0_ones, u_493, u_494, u_495, h0_reader_behind, h0_reader_at, u_496, h0_reader_number)
    ) else (
     lt1 ((h0_ones : Int32) + 1) fun (x_503 : Int32) =>
     lt1 (y_X6_seesSign 40 h0_reader_kind) fun (r_506 : Int32) =>
     if (r_506 : Int32) = 0 then (
      lt5 (y_X6_advance h0_reader_length h0_reader_faultKind h0_reader_letters h0_reader_mostBytes h0_reader_behind h0_reader_at h0_reader_kind h0_reader_number F_h0_reader_bytes) fun (u_516 : Int64) (u_517 : Int32) (u_518 : Int32) (u_519 : Int32) (u_520 : Int32) =>
      lt8 (y_X8_readOne_8 x_503 h0_reader_length h0_reader_faultKind h0_reader_faultAt u_516 h0_reader_mostBytes u_517 u_518 u_519 u_520 F_h0_reader_bytes r1_jurors r1_floors F_r1_floorName F_r1_jurorName) fun (u_526 : Int32) (u_527 : Int32) (u_528 : Int32) (u_529 : Int64) (u_530 : Int32) (u_531 : Int32) (u_532 : Int32) (u_533 : Int32) =>
      if u_527 = 0 then (
       (u_526, u_527, u_528, u_529, u_530, u_531, u_532, u_533)
      ) else (
       (u_526, u_527, u_528, u_529, u_530, u_531, u_532, u_533)
      )
     ) else (
      (0, 0, 0, 0, 0, 0, 0, 0)
     )
    )
   )
  ) fun (n_577 : Nat) => (
   if (20 : Int32) ≤ h0_ones then (
    lt4 (y_X6_fail 4 h0_reader_faultKind h0_reader_faultAt h0_reader_letters h0_reader_at h0_reader_kind) fun (u_589 : Int32) (u_590 : Int32) (u_591 : Int64) (u_592 : Int32) =>
    (h0_ones, u_589, u_590, u_591, h0_reader_behind, h0_reader_at, u_592, h0_reader_number)
   ) else (
    lt1 ((h0_ones : Int32) + 1) fun (x_599 : Int32) =>
    lt1 (y_X6_seesSign 40 h0_reader_kind) fun (r_602 : Int32) =>
    if (r_602 : Int32) = 0 then (
     lt5 (y_X6_advance h0_reader_length h0_reader_faultKind h0_reader_letters h0_reader_mostBytes h0_reader_behind h0_reader_at h0_reader_kind h0_reader_number F_h0_reader_bytes) fun (u_612 : Int64) (u_613 : Int32) (u_614 : Int32) (u_615 : Int32) (u_616 : Int32) =>
     lt7 (y_X8_readPlain h0_reader_length h0_reader_faultKind h0_reader_faultAt u_612 h0_reader_mostBytes u_613 u_614 u_615 u_616 F_h0_reader_bytes r1_jurors r1_floors F_r1_floorName F_r1_jurorName n_577) fun (u_622 : Int32) (u_623 : Int32) (u_624 : Int64) (u_625 : Int32) (u_626 : Int32) (u_627 : Int32) (u_628 : Int32) =>
     (x_599, u_622, u_623, u_624, u_625, u_626, u_627, u_628)
    ) else (
     (0, 0, 0, 0, 0, 0, 0, 0)
    )
   )
  )
theorem y_X8_readOne_7_s (h0_ones : Int32) (h0_reader_length : Int32) (h0_reader_faultKind : Int32) (h0_reader_faultAt : Int32) (h0_reader_letters : Int64) (h0_reader_mostBytes : Int32) (h0_reader_behind : Int32) (h0_reader_at : Int32) (h0_reader_kind : Int32) (h0_reader_number : Int32) (F_h0_reader_bytes : Nat → Int32) (r1_jurors : Int32) (r1_floors : Int32) (F_r1_floorName : Nat → Int64) (F_r1_jurorName : Nat → Int64)  : y_X8_readOne_7 h0_ones h0_reader_length h0_reader_faultKind h0_reader_faultAt h0_reader_letters h0_reader_mostBytes h0_reader_behind h0_reader_at h0_reader_kind h0_reader_number F_h0_reader_bytes r1_jurors r1_floors F_r1_floorName F_r1_jurorName = (
  lo (y_X8_plainWord h0_reader_letters h0_reader_kind) (
   lt1 (y_X6_sees h0_reader_letters h0_reader_kind 17) fun (r_322 : Int32) =>
   if (r_322 : Int32) = 0 then (
    lt1 (y_X6_seesSign 40 h0_reader_kind) fun (r_329 : Int32) =>
    if (r_329 : Int32) = 0 then (
     lt4 (y_X6_fail 1 h0_reader_faultKind h0_reader_faultAt h0_reader_letters h0_reader_at h0_reader_kind) fun (u_339 : Int32) (u_340 : Int32) (u_341 : Int64) (u_342 : Int32) =>
     (h0_ones, u_339, u_340, u_341, h0_reader_behind, h0_reader_at, u_342, h0_reader_number)
    ) else (
     if (20 : Int32) ≤ h0_ones then (
      lt4 (y_X6_fail 4 h0_reader_faultKind h0_reader_faultAt h0_reader_letters h0_reader_at h0_reader_kind) fun (u_354 : Int32) (u_355 : Int32) (u_356 : Int64) (u_357 : Int32) =>
      (h0_ones, u_354, u_355, u_356, h0_reader_behind, h0_reader_at, u_357, h0_reader_number)
     ) else (
      lt1 ((h0_ones : Int32) + 1) fun (x_364 : Int32) =>
      lt1 (y_X6_seesSign 40 h0_reader_kind) fun (r_367 : Int32) =>
      if (r_367 : Int32) = 0 then (
       lt5 (y_X6_advance h0_reader_length h0_reader_faultKind h0_reader_letters h0_reader_mostBytes h0_reader_behind h0_reader_at h0_reader_kind h0_reader_number F_h0_reader_bytes) fun (u_377 : Int64) (u_378 : Int32) (u_379 : Int32) (u_380 : Int32) (u_381 : Int32) =>
       lt8 (y_X8_readOne_8 x_364 h0_reader_length h0_reader_faultKind h0_reader_faultAt u_377 h0_reader_mostBytes u_378 u_379 u_380 u_381 F_h0_reader_bytes r1_jurors r1_floors F_r1_floorName F_r1_jurorName) fun (u_387 : Int32) (u_388 : Int32) (u_389 : Int32) (u_390 : Int64) (u_391 : Int32) (u_392 : Int32) (u_393 : Int32) (u_394 : Int32) =>
       if u_388 = 0 then (
        (u_387, u_388, u_389, u_390, u_391, u_392, u_393, u_394)
       ) else (
        (u_387, u_388, u_389, u_390, u_391, u_392, u_393, u_394)
       )
      ) else (
       lt5 (y_X6_advance h0_reader_length h0_reader_faultKind h0_reader_letters h0_reader_mostBytes h0_reader_behind h0_reader_at h0_reader_kind h0_reader_number F_h0_reader_bytes) fun (u_440 : Int64) (u_441 : Int32) (u_442 : Int32) (u_443 : Int32) (u_444 : Int32) =>
       lt8 (y_X8_readCond_8 x_364 h0_reader_length h0_reader_faultKind h0_reader_faultAt u_440 h0_reader_mostBytes u_441 u_442 u_443 u_444 F_h0_reader_bytes r1_jurors r1_floors F_r1_floorName F_r1_jurorName) fun (u_450 : Int32) (u_451 : Int32) (u_452 : Int32) (u_453 : Int64) (u_454 : Int32) (u_455 : Int32) (u_456 : Int32) (u_457 : Int32) =>
       lt7 (y_X6_takeSign 41 h0_reader_length u_451 u_452 u_453 h0_reader_mostBytes u_454 u_455 u_456 u_457 F_h0_reader_bytes) fun (u_475 : Int32) (u_476 : Int32) (u_477 : Int64) (u_478 : Int32) (u_479 : Int32) (u_480 : Int32) (u_481 : Int32) =>
       (u_450, u_475, u_476, u_477, u_478, u_479, u_480, u_481)
      )
     )
    )
   ) else (
    if (20 : Int32) ≤ h0_ones then (
     lt4 (y_X6_fail 4 h0_reader_faultKind h0_reader_faultAt h0_reader_letters h0_reader_at h0_reader_kind) fun (u_493 : Int32) (u_494 : Int32) (u_495 : Int64) (u_496 : Int32) =>
     (h0_ones, u_493, u_494, u_495, h0_reader_behind, h0_reader_at, u_496, h0_reader_number)
    ) else (
     lt1 ((h0_ones : Int32) + 1) fun (x_503 : Int32) =>
     lt1 (y_X6_seesSign 40 h0_reader_kind) fun (r_506 : Int32) =>
     if (r_506 : Int32) = 0 then (
      lt5 (y_X6_advance h0_reader_length h0_reader_faultKind h0_reader_letters h0_reader_mostBytes h0_reader_behind h0_reader_at h0_reader_kind h0_reader_number F_h0_reader_bytes) fun (u_516 : Int64) (u_517 : Int32) (u_518 : Int32) (u_519 : Int32) (u_520 : Int32) =>
      lt8 (y_X8_readOne_8 x_503 h0_reader_length h0_reader_faultKind h0_reader_faultAt u_516 h0_reader_mostBytes u_517 u_518 u_519 u_520 F_h0_reader_bytes r1_jurors r1_floors F_r1_floorName F_r1_jurorName) fun (u_526 : Int32) (u_527 : Int32) (u_528 : Int32) (u_529 : Int64) (u_530 : Int32) (u_531 : Int32) (u_532 : Int32) (u_533 : Int32) =>
      if u_527 = 0 then (
       (u_526, u_527, u_528, u_529, u_530, u_531, u_532, u_533)
      ) else (
       (u_526, u_527, u_528, u_529, u_530, u_531, u_532, u_533)
      )
     ) else (
      (0, 0, 0, 0, 0, 0, 0, 0)
     )
    )
   )
  ) fun (n_577 : Nat) => (
   if (20 : Int32) ≤ h0_ones then (
    lt4 (y_X6_fail 4 h0_reader_faultKind h0_reader_faultAt h0_reader_letters h0_reader_at h0_reader_kind) fun (u_589 : Int32) (u_590 : Int32) (u_591 : Int64) (u_592 : Int32) =>
    (h0_ones, u_589, u_590, u_591, h0_reader_behind, h0_reader_at, u_592, h0_reader_number)
   ) else (
    lt1 ((h0_ones : Int32) + 1) fun (x_599 : Int32) =>
    lt1 (y_X6_seesSign 40 h0_reader_kind) fun (r_602 : Int32) =>
    if (r_602 : Int32) = 0 then (
     lt5 (y_X6_advance h0_reader_length h0_reader_faultKind h0_reader_letters h0_reader_mostBytes h0_reader_behind h0_reader_at h0_reader_kind h0_reader_number F_h0_reader_bytes) fun (u_612 : Int64) (u_613 : Int32) (u_614 : Int32) (u_615 : Int32) (u_616 : Int32) =>
     lt7 (y_X8_readPlain h0_reader_length h0_reader_faultKind h0_reader_faultAt u_612 h0_reader_mostBytes u_613 u_614 u_615 u_616 F_h0_reader_bytes r1_jurors r1_floors F_r1_floorName F_r1_jurorName n_577) fun (u_622 : Int32) (u_623 : Int32) (u_624 : Int64) (u_625 : Int32) (u_626 : Int32) (u_627 : Int32) (u_628 : Int32) =>
     (x_599, u_622, u_623, u_624, u_625, u_626, u_627, u_628)
    ) else (
     (0, 0, 0, 0, 0, 0, 0, 0)
    )
   )
  )) := rfl
def y_X8_readAll_7_8 (h0_reader_length : Int32) (h0_reader_mostBytes : Int32) (F_h0_reader_bytes : Nat → Int32) (r1_jurors : Int32) (r1_floors : Int32) (F_r1_floorName : Nat → Int64) (F_r1_jurorName : Nat → Int64) : Nat → Int32 → Int32 → Int32 → Int32 → Int64 → Int32 → Int32 → Int32 → Int32 → (Int32 × Int32 × Int32 × Int64 × Int32 × Int32 × Int32 × Int32)
 | 0, _, _, _, _, _, _, _, _, _ => (0, 0, 0, 0, 0, 0, 0, 0)
 | n8 + 1, y8_0, y8_1, y8_2, y8_3, y8_4, y8_5, y8_6, y8_7, y8_8 =>
  if (20 : Int32) ≤ y8_0 then (
   (y8_1, y8_2, y8_3, y8_4, y8_5, y8_6, y8_7, y8_8)
  ) else (
   lt6 (y_X6_takeIf h0_reader_length y8_2 y8_4 h0_reader_mostBytes y8_5 y8_6 y8_7 y8_8 F_h0_reader_bytes 16) fun (r_1060 : Int32) (u_1062 : Int64) (u_1063 : Int32) (u_1064 : Int32) (u_1065 : Int32) (u_1066 : Int32) =>
   if (r_1060 : Int32) = 0 then (
    (y8_1, y8_2, y8_3, u_1062, u_1063, u_1064, u_1065, u_1066)
   ) else (
    lt8 (y_X8_readOne_7 y8_1 h0_reader_length y8_2 y8_3 u_1062 h0_reader_mostBytes u_1063 u_1064 u_1065 u_1066 F_h0_reader_bytes r1_jurors r1_floors F_r1_floorName F_r1_jurorName) fun (u_1085 : Int32) (u_1086 : Int32) (u_1087 : Int32) (u_1088 : Int64) (u_1089 : Int32) (u_1090 : Int32) (u_1091 : Int32) (u_1092 : Int32) =>
    if u_1086 = 0 then (
     lt1 (y8_0 + 1) fun (x_1120 : Int32) =>
     y_X8_readAll_7_8 h0_reader_length h0_reader_mostBytes F_h0_reader_bytes r1_jurors r1_floors F_r1_floorName F_r1_jurorName n8 x_1120 u_1085 u_1086 u_1087 u_1088 u_1089 u_1090 u_1091 u_1092
    ) else (
     lt1 (y8_0 + 1) fun (x_1135 : Int32) =>
     y_X8_readAll_7_8 h0_reader_length h0_reader_mostBytes F_h0_reader_bytes r1_jurors r1_floors F_r1_floorName F_r1_jurorName n8 x_1135 u_1085 u_1086 u_1087 u_1088 u_1089 u_1090 u_1091 u_1092
    )
   )
  )
theorem y_X8_readAll_7_8_s (h0_reader_length : Int32) (h0_reader_mostBytes : Int32) (F_h0_reader_bytes : Nat → Int32) (r1_jurors : Int32) (r1_floors : Int32) (F_r1_floorName : Nat → Int64) (F_r1_jurorName : Nat → Int64) (n8 : Nat) (y8_0 : Int32) (y8_1 : Int32) (y8_2 : Int32) (y8_3 : Int32) (y8_4 : Int64) (y8_5 : Int32) (y8_6 : Int32) (y8_7 : Int32) (y8_8 : Int32) : y_X8_readAll_7_8 h0_reader_length h0_reader_mostBytes F_h0_reader_bytes r1_jurors r1_floors F_r1_floorName F_r1_jurorName (n8 + 1) y8_0 y8_1 y8_2 y8_3 y8_4 y8_5 y8_6 y8_7 y8_8 = (
  if (20 : Int32) ≤ y8_0 then (
   (y8_1, y8_2, y8_3, y8_4, y8_5, y8_6, y8_7, y8_8)
  ) else (
   lt6 (y_X6_takeIf h0_reader_length y8_2 y8_4 h0_reader_mostBytes y8_5 y8_6 y8_7 y8_8 F_h0_reader_bytes 16) fun (r_1060 : Int32) (u_1062 : Int64) (u_1063 : Int32) (u_1064 : Int32) (u_1065 : Int32) (u_1066 : Int32) =>
   if (r_1060 : Int32) = 0 then (
    (y8_1, y8_2, y8_3, u_1062, u_1063, u_1064, u_1065, u_1066)
   ) else (
    lt8 (y_X8_readOne_7 y8_1 h0_reader_length y8_2 y8_3 u_1062 h0_reader_mostBytes u_1063 u_1064 u_1065 u_1066 F_h0_reader_bytes r1_jurors r1_floors F_r1_floorName F_r1_jurorName) fun (u_1085 : Int32) (u_1086 : Int32) (u_1087 : Int32) (u_1088 : Int64) (u_1089 : Int32) (u_1090 : Int32) (u_1091 : Int32) (u_1092 : Int32) =>
    if u_1086 = 0 then (
     lt1 (y8_0 + 1) fun (x_1120 : Int32) =>
     y_X8_readAll_7_8 h0_reader_length h0_reader_mostBytes F_h0_reader_bytes r1_jurors r1_floors F_r1_floorName F_r1_jurorName n8 x_1120 u_1085 u_1086 u_1087 u_1088 u_1089 u_1090 u_1091 u_1092
    ) else (
     lt1 (y8_0 + 1) fun (x_1135 : Int32) =>
     y_X8_readAll_7_8 h0_reader_length h0_reader_mostBytes F_h0_reader_bytes r1_jurors r1_floors F_r1_floorName F_r1_jurorName n8 x_1135 u_1085 u_1086 u_1087 u_1088 u_1089 u_1090 u_1091 u_1092
    )
   )
  )) := rfl
def y_X8_readAll_7 (h0_ones : Int32) (h0_reader_length : Int32) (h0_reader_faultKind : Int32) (h0_reader_faultAt : Int32) (h0_reader_letters : Int64) (h0_reader_mostBytes : Int32) (h0_reader_behind : Int32) (h0_reader_at : Int32) (h0_reader_kind : Int32) (h0_reader_number : Int32) (F_h0_reader_bytes : Nat → Int32) (r1_jurors : Int32) (r1_floors : Int32) (F_r1_floorName : Nat → Int64) (F_r1_jurorName : Nat → Int64)  : Int32 × Int32 × Int32 × Int64 × Int32 × Int32 × Int32 × Int32 :=
  lt8 (y_X8_readOne_7 h0_ones h0_reader_length h0_reader_faultKind h0_reader_faultAt h0_reader_letters h0_reader_mostBytes h0_reader_behind h0_reader_at h0_reader_kind h0_reader_number F_h0_reader_bytes r1_jurors r1_floors F_r1_floorName F_r1_jurorName) fun (u_1141 : Int32) (u_1142 : Int32) (u_1143 : Int32) (u_1144 : Int64) (u_1145 : Int32) (u_1146 : Int32) (u_1147 : Int32) (u_1148 : Int32) =>
  y_X8_readAll_7_8 h0_reader_length h0_reader_mostBytes F_h0_reader_bytes r1_jurors r1_floors F_r1_floorName F_r1_jurorName 21 0 u_1141 u_1142 u_1143 u_1144 u_1145 u_1146 u_1147 u_1148
theorem y_X8_readAll_7_s (h0_ones : Int32) (h0_reader_length : Int32) (h0_reader_faultKind : Int32) (h0_reader_faultAt : Int32) (h0_reader_letters : Int64) (h0_reader_mostBytes : Int32) (h0_reader_behind : Int32) (h0_reader_at : Int32) (h0_reader_kind : Int32) (h0_reader_number : Int32) (F_h0_reader_bytes : Nat → Int32) (r1_jurors : Int32) (r1_floors : Int32) (F_r1_floorName : Nat → Int64) (F_r1_jurorName : Nat → Int64)  : y_X8_readAll_7 h0_ones h0_reader_length h0_reader_faultKind h0_reader_faultAt h0_reader_letters h0_reader_mostBytes h0_reader_behind h0_reader_at h0_reader_kind h0_reader_number F_h0_reader_bytes r1_jurors r1_floors F_r1_floorName F_r1_jurorName = (
  lt8 (y_X8_readOne_7 h0_ones h0_reader_length h0_reader_faultKind h0_reader_faultAt h0_reader_letters h0_reader_mostBytes h0_reader_behind h0_reader_at h0_reader_kind h0_reader_number F_h0_reader_bytes r1_jurors r1_floors F_r1_floorName F_r1_jurorName) fun (u_1141 : Int32) (u_1142 : Int32) (u_1143 : Int32) (u_1144 : Int64) (u_1145 : Int32) (u_1146 : Int32) (u_1147 : Int32) (u_1148 : Int32) =>
  y_X8_readAll_7_8 h0_reader_length h0_reader_mostBytes F_h0_reader_bytes r1_jurors r1_floors F_r1_floorName F_r1_jurorName 21 0 u_1141 u_1142 u_1143 u_1144 u_1145 u_1146 u_1147 u_1148) := rfl
def y_X8_readCond_7_8 (h0_reader_length : Int32) (h0_reader_mostBytes : Int32) (F_h0_reader_bytes : Nat → Int32) (r1_jurors : Int32) (r1_floors : Int32) (F_r1_floorName : Nat → Int64) (F_r1_jurorName : Nat → Int64) : Nat → Int32 → Int32 → Int32 → Int32 → Int64 → Int32 → Int32 → Int32 → Int32 → (Int32 × Int32 × Int32 × Int64 × Int32 × Int32 × Int32 × Int32)
 | 0, _, _, _, _, _, _, _, _, _ => (0, 0, 0, 0, 0, 0, 0, 0)
 | n8 + 1, y8_0, y8_1, y8_2, y8_3, y8_4, y8_5, y8_6, y8_7, y8_8 =>
  if (20 : Int32) ≤ y8_0 then (
   (y8_1, y8_2, y8_3, y8_4, y8_5, y8_6, y8_7, y8_8)
  ) else (
   lt6 (y_X6_takeIf h0_reader_length y8_2 y8_4 h0_reader_mostBytes y8_5 y8_6 y8_7 y8_8 F_h0_reader_bytes 15) fun (r_1060 : Int32) (u_1062 : Int64) (u_1063 : Int32) (u_1064 : Int32) (u_1065 : Int32) (u_1066 : Int32) =>
   if (r_1060 : Int32) = 0 then (
    (y8_1, y8_2, y8_3, u_1062, u_1063, u_1064, u_1065, u_1066)
   ) else (
    lt8 (y_X8_readAll_7 y8_1 h0_reader_length y8_2 y8_3 u_1062 h0_reader_mostBytes u_1063 u_1064 u_1065 u_1066 F_h0_reader_bytes r1_jurors r1_floors F_r1_floorName F_r1_jurorName) fun (u_1085 : Int32) (u_1086 : Int32) (u_1087 : Int32) (u_1088 : Int64) (u_1089 : Int32) (u_1090 : Int32) (u_1091 : Int32) (u_1092 : Int32) =>
    if u_1086 = 0 then (
     lt1 (y8_0 + 1) fun (x_1120 : Int32) =>
     y_X8_readCond_7_8 h0_reader_length h0_reader_mostBytes F_h0_reader_bytes r1_jurors r1_floors F_r1_floorName F_r1_jurorName n8 x_1120 u_1085 u_1086 u_1087 u_1088 u_1089 u_1090 u_1091 u_1092
    ) else (
     lt1 (y8_0 + 1) fun (x_1135 : Int32) =>
     y_X8_readCond_7_8 h0_reader_length h0_reader_mostBytes F_h0_reader_bytes r1_jurors r1_floors F_r1_floorName F_r1_jurorName n8 x_1135 u_1085 u_1086 u_1087 u_1088 u_1089 u_1090 u_1091 u_1092
    )
   )
  )
theorem y_X8_readCond_7_8_s (h0_reader_length : Int32) (h0_reader_mostBytes : Int32) (F_h0_reader_bytes : Nat → Int32) (r1_jurors : Int32) (r1_floors : Int32) (F_r1_floorName : Nat → Int64) (F_r1_jurorName : Nat → Int64) (n8 : Nat) (y8_0 : Int32) (y8_1 : Int32) (y8_2 : Int32) (y8_3 : Int32) (y8_4 : Int64) (y8_5 : Int32) (y8_6 : Int32) (y8_7 : Int32) (y8_8 : Int32) : y_X8_readCond_7_8 h0_reader_length h0_reader_mostBytes F_h0_reader_bytes r1_jurors r1_floors F_r1_floorName F_r1_jurorName (n8 + 1) y8_0 y8_1 y8_2 y8_3 y8_4 y8_5 y8_6 y8_7 y8_8 = (
  if (20 : Int32) ≤ y8_0 then (
   (y8_1, y8_2, y8_3, y8_4, y8_5, y8_6, y8_7, y8_8)
  ) else (
   lt6 (y_X6_takeIf h0_reader_length y8_2 y8_4 h0_reader_mostBytes y8_5 y8_6 y8_7 y8_8 F_h0_reader_bytes 15) fun (r_1060 : Int32) (u_1062 : Int64) (u_1063 : Int32) (u_1064 : Int32) (u_1065 : Int32) (u_1066 : Int32) =>
   if (r_1060 : Int32) = 0 then (
    (y8_1, y8_2, y8_3, u_1062, u_1063, u_1064, u_1065, u_1066)
   ) else (
    lt8 (y_X8_readAll_7 y8_1 h0_reader_length y8_2 y8_3 u_1062 h0_reader_mostBytes u_1063 u_1064 u_1065 u_1066 F_h0_reader_bytes r1_jurors r1_floors F_r1_floorName F_r1_jurorName) fun (u_1085 : Int32) (u_1086 : Int32) (u_1087 : Int32) (u_1088 : Int64) (u_1089 : Int32) (u_1090 : Int32) (u_1091 : Int32) (u_1092 : Int32) =>
    if u_1086 = 0 then (
     lt1 (y8_0 + 1) fun (x_1120 : Int32) =>
     y_X8_readCond_7_8 h0_reader_length h0_reader_mostBytes F_h0_reader_bytes r1_jurors r1_floors F_r1_floorName F_r1_jurorName n8 x_1120 u_1085 u_1086 u_1087 u_1088 u_1089 u_1090 u_1091 u_1092
    ) else (
     lt1 (y8_0 + 1) fun (x_1135 : Int32) =>
     y_X8_readCond_7_8 h0_reader_length h0_reader_mostBytes F_h0_reader_bytes r1_jurors r1_floors F_r1_floorName F_r1_jurorName n8 x_1135 u_1085 u_1086 u_1087 u_1088 u_1089 u_1090 u_1091 u_1092
    )
   )
  )) := rfl
def y_X8_readCond_7 (h0_ones : Int32) (h0_reader_length : Int32) (h0_reader_faultKind : Int32) (h0_reader_faultAt : Int32) (h0_reader_letters : Int64) (h0_reader_mostBytes : Int32) (h0_reader_behind : Int32) (h0_reader_at : Int32) (h0_reader_kind : Int32) (h0_reader_number : Int32) (F_h0_reader_bytes : Nat → Int32) (r1_jurors : Int32) (r1_floors : Int32) (F_r1_floorName : Nat → Int64) (F_r1_jurorName : Nat → Int64)  : Int32 × Int32 × Int32 × Int64 × Int32 × Int32 × Int32 × Int32 :=
  lt8 (y_X8_readAll_7 h0_ones h0_reader_length h0_reader_faultKind h0_reader_faultAt h0_reader_letters h0_reader_mostBytes h0_reader_behind h0_reader_at h0_reader_kind h0_reader_number F_h0_reader_bytes r1_jurors r1_floors F_r1_floorName F_r1_jurorName) fun (u_1141 : Int32) (u_1142 : Int32) (u_1143 : Int32) (u_1144 : Int64) (u_1145 : Int32) (u_1146 : Int32) (u_1147 : Int32) (u_1148 : Int32) =>
  y_X8_readCond_7_8 h0_reader_length h0_reader_mostBytes F_h0_reader_bytes r1_jurors r1_floors F_r1_floorName F_r1_jurorName 21 0 u_1141 u_1142 u_1143 u_1144 u_1145 u_1146 u_1147 u_1148
theorem y_X8_readCond_7_s (h0_ones : Int32) (h0_reader_length : Int32) (h0_reader_faultKind : Int32) (h0_reader_faultAt : Int32) (h0_reader_letters : Int64) (h0_reader_mostBytes : Int32) (h0_reader_behind : Int32) (h0_reader_at : Int32) (h0_reader_kind : Int32) (h0_reader_number : Int32) (F_h0_reader_bytes : Nat → Int32) (r1_jurors : Int32) (r1_floors : Int32) (F_r1_floorName : Nat → Int64) (F_r1_jurorName : Nat → Int64)  : y_X8_readCond_7 h0_ones h0_reader_length h0_reader_faultKind h0_reader_faultAt h0_reader_letters h0_reader_mostBytes h0_reader_behind h0_reader_at h0_reader_kind h0_reader_number F_h0_reader_bytes r1_jurors r1_floors F_r1_floorName F_r1_jurorName = (
  lt8 (y_X8_readAll_7 h0_ones h0_reader_length h0_reader_faultKind h0_reader_faultAt h0_reader_letters h0_reader_mostBytes h0_reader_behind h0_reader_at h0_reader_kind h0_reader_number F_h0_reader_bytes r1_jurors r1_floors F_r1_floorName F_r1_jurorName) fun (u_1141 : Int32) (u_1142 : Int32) (u_1143 : Int32) (u_1144 : Int64) (u_1145 : Int32) (u_1146 : Int32) (u_1147 : Int32) (u_1148 : Int32) =>
  y_X8_readCond_7_8 h0_reader_length h0_reader_mostBytes F_h0_reader_bytes r1_jurors r1_floors F_r1_floorName F_r1_jurorName 21 0 u_1141 u_1142 u_1143 u_1144 u_1145 u_1146 u_1147 u_1148) := rfl
def y_X8_readOne_6 (h0_ones : Int32) (h0_reader_length : Int32) (h0_reader_faultKind : Int32) (h0_reader_faultAt : Int32) (h0_reader_letters : Int64) (h0_reader_mostBytes : Int32) (h0_reader_behind : Int32) (h0_reader_at : Int32) (h0_reader_kind : Int32) (h0_reader_number : Int32) (F_h0_reader_bytes : Nat → Int32) (r1_jurors : Int32) (r1_floors : Int32) (F_r1_floorName : Nat → Int64) (F_r1_jurorName : Nat → Int64)  : Int32 × Int32 × Int32 × Int64 × Int32 × Int32 × Int32 × Int32 :=
  lo (y_X8_plainWord h0_reader_letters h0_reader_kind) (
   lt1 (y_X6_sees h0_reader_letters h0_reader_kind 17) fun (r_318 : Int32) =>
   if (r_318 : Int32) = 0 then (
    lt1 (y_X6_seesSign 40 h0_reader_kind) fun (r_325 : Int32) =>
    if (r_325 : Int32) = 0 then (
     lt4 (y_X6_fail 1 h0_reader_faultKind h0_reader_faultAt h0_reader_letters h0_reader_at h0_reader_kind) fun (u_335 : Int32) (u_336 : Int32) (u_337 : Int64) (u_338 : Int32) =>
     (h0_ones, u_335, u_336, u_337, h0_reader_behind, h0_reader_at, u_338, h0_reader_number)
    ) else (
     if (20 : Int32) ≤ h0_ones then (
      lt4 (y_X6_fail 4 h0_reader_faultKind h0_reader_faultAt h0_reader_letters h0_reader_at h0_reader_kind) fun (u_350 : Int32) (u_351 : Int32) (u_352 : Int64) (u_353 : Int32) =>
      (h0_ones, u_350, u_351, u_352, h0_reader_behind, h0_reader_at, u_353, h0_reader_number)
     ) else (
      lt1 ((h0_ones : Int32) + 1) fun (x_360 : Int32) =>
      lt1 (y_X6_seesSign 40 h0_reader_kind) fun (r_363 : Int32) =>
      if (r_363 : Int32) = 0 then (
       lt5 (y_X6_advance h0_reader_length h0_reader_faultKind h0_reader_letters h0_reader_mostBytes h0_reader_behind h0_reader_at h0_reader_kind h0_reader_number F_h0_reader_bytes) fun (u_373 : Int64) (u_374 : Int32) (u_375 : Int32) (u_376 : Int32) (u_377 : Int32) =>
       lt8 (y_X8_readOne_7 x_360 h0_reader_length h0_reader_faultKind h0_reader_faultAt u_373 h0_reader_mostBytes u_374 u_375 u_376 u_377 F_h0_reader_bytes r1_jurors r1_floors F_r1_floorName F_r1_jurorName) fun (u_383 : Int32) (u_384 : Int32) (u_385 : Int32) (u_386 : Int64) (u_387 : Int32) (u_388 : Int32) (u_389 : Int32) (u_390 : Int32) =>
       if u_384 = 0 then (
        (u_383, u_384, u_385, u_386, u_387, u_388, u_389, u_390)
       ) else (
        (u_383, u_384, u_385, u_386, u_387, u_388, u_389, u_390)
       )
      ) else (
       lt5 (y_X6_advance h0_reader_length h0_reader_faultKind h0_reader_letters h0_reader_mostBytes h0_reader_behind h0_reader_at h0_reader_kind h0_reader_number F_h0_reader_bytes) fun (u_434 : Int64) (u_435 : Int32) (u_436 : Int32) (u_437 : Int32) (u_438 : Int32) =>
       lt8 (y_X8_readCond_7 x_360 h0_reader_length h0_reader_faultKind h0_reader_faultAt u_434 h0_reader_mostBytes u_435 u_436 u_437 u_438 F_h0_reader_bytes r1_jurors r1_floors F_r1_floorName F_r1_jurorName) fun (u_444 : Int32) (u_445 : Int32) (u_446 : Int32) (u_447 : Int64) (u_448 : Int32) (u_449 : Int32) (u_450 : Int32) (u_451 : Int32) =>
       lt7 (y_X6_takeSign 41 h0_reader_length u_445 u_446 u_447 h0_reader_mostBytes u_448 u_449 u_450 u_451 F_h0_reader_bytes) fun (u_469 : Int32) (u_470 : Int32) (u_471 : Int64) (u_472 : Int32) (u_473 : Int32) (u_474 : Int32) (u_475 : Int32) =>
       (u_444, u_469, u_470, u_471, u_472, u_473, u_474, u_475)
      )
     )
    )
   ) else (
    if (20 : Int32) ≤ h0_ones then (
     lt4 (y_X6_fail 4 h0_reader_faultKind h0_reader_faultAt h0_reader_letters h0_reader_at h0_reader_kind) fun (u_487 : Int32) (u_488 : Int32) (u_489 : Int64) (u_490 : Int32) =>
     (h0_ones, u_487, u_488, u_489, h0_reader_behind, h0_reader_at, u_490, h0_reader_number)
    ) else (
     lt1 ((h0_ones : Int32) + 1) fun (x_497 : Int32) =>
     lt1 (y_X6_seesSign 40 h0_reader_kind) fun (r_500 : Int32) =>
     if (r_500 : Int32) = 0 then (
      lt5 (y_X6_advance h0_reader_length h0_reader_faultKind h0_reader_letters h0_reader_mostBytes h0_reader_behind h0_reader_at h0_reader_kind h0_reader_number F_h0_reader_bytes) fun (u_510 : Int64) (u_511 : Int32) (u_512 : Int32) (u_513 : Int32) (u_514 : Int32) =>
      lt8 (y_X8_readOne_7 x_497 h0_reader_length h0_reader_faultKind h0_reader_faultAt u_510 h0_reader_mostBytes u_511 u_512 u_513 u_514 F_h0_reader_bytes r1_jurors r1_floors F_r1_floorName F_r1_jurorName) fun (u_520 : Int32) (u_521 : Int32) (u_522 : Int32) (u_523 : Int64) (u_524 : Int32) (u_525 : Int32) (u_526 : Int32) (u_527 : Int32) =>
      if u_521 = 0 then (
       (u_520, u_521, u_522, u_523, u_524, u_525, u_526, u_527)
      ) else (
       (u_520, u_521, u_522, u_523, u_524, u_525, u_526, u_527)
      )
     ) else (
      (0, 0, 0, 0, 0, 0, 0, 0)
     )
    )
   )
  ) fun (n_569 : Nat) => (
   if (20 : Int32) ≤ h0_ones then (
    lt4 (y_X6_fail 4 h0_reader_faultKind h0_reader_faultAt h0_reader_letters h0_reader_at h0_reader_kind) fun (u_581 : Int32) (u_582 : Int32) (u_583 : Int64) (u_584 : Int32) =>
    (h0_ones, u_581, u_582, u_583, h0_reader_behind, h0_reader_at, u_584, h0_reader_number)
   ) else (
    lt1 ((h0_ones : Int32) + 1) fun (x_591 : Int32) =>
    lt1 (y_X6_seesSign 40 h0_reader_kind) fun (r_594 : Int32) =>
    if (r_594 : Int32) = 0 then (
     lt5 (y_X6_advance h0_reader_length h0_reader_faultKind h0_reader_letters h0_reader_mostBytes h0_reader_behind h0_reader_at h0_reader_kind h0_reader_number F_h0_reader_bytes) fun (u_604 : Int64) (u_605 : Int32) (u_606 : Int32) (u_607 : Int32) (u_608 : Int32) =>
     lt7 (y_X8_readPlain h0_reader_length h0_reader_faultKind h0_reader_faultAt u_604 h0_reader_mostBytes u_605 u_606 u_607 u_608 F_h0_reader_bytes r1_jurors r1_floors F_r1_floorName F_r1_jurorName n_569) fun (u_614 : Int32) (u_615 : Int32) (u_616 : Int64) (u_617 : Int32) (u_618 : Int32) (u_619 : Int32) (u_620 : Int32) =>
     (x_591, u_614, u_615, u_616, u_617, u_618, u_619, u_620)
    ) else (
     (0, 0, 0, 0, 0, 0, 0, 0)
    )
   )
  )
theorem y_X8_readOne_6_s (h0_ones : Int32) (h0_reader_length : Int32) (h0_reader_faultKind : Int32) (h0_reader_faultAt : Int32) (h0_reader_letters : Int64) (h0_reader_mostBytes : Int32) (h0_reader_behind : Int32) (h0_reader_at : Int32) (h0_reader_kind : Int32) (h0_reader_number : Int32) (F_h0_reader_bytes : Nat → Int32) (r1_jurors : Int32) (r1_floors : Int32) (F_r1_floorName : Nat → Int64) (F_r1_jurorName : Nat → Int64)  : y_X8_readOne_6 h0_ones h0_reader_length h0_reader_faultKind h0_reader_faultAt h0_reader_letters h0_reader_mostBytes h0_reader_behind h0_reader_at h0_reader_kind h0_reader_number F_h0_reader_bytes r1_jurors r1_floors F_r1_floorName F_r1_jurorName = (
  lo (y_X8_plainWord h0_reader_letters h0_reader_kind) (
   lt1 (y_X6_sees h0_reader_letters h0_reader_kind 17) fun (r_318 : Int32) =>
   if (r_318 : Int32) = 0 then (
    lt1 (y_X6_seesSign 40 h0_reader_kind) fun (r_325 : Int32) =>
    if (r_325 : Int32) = 0 then (
     lt4 (y_X6_fail 1 h0_reader_faultKind h0_reader_faultAt h0_reader_letters h0_reader_at h0_reader_kind) fun (u_335 : Int32) (u_336 : Int32) (u_337 : Int64) (u_338 : Int32) =>
     (h0_ones, u_335, u_336, u_337, h0_reader_behind, h0_reader_at, u_338, h0_reader_number)
    ) else (
     if (20 : Int32) ≤ h0_ones then (
      lt4 (y_X6_fail 4 h0_reader_faultKind h0_reader_faultAt h0_reader_letters h0_reader_at h0_reader_kind) fun (u_350 : Int32) (u_351 : Int32) (u_352 : Int64) (u_353 : Int32) =>
      (h0_ones, u_350, u_351, u_352, h0_reader_behind, h0_reader_at, u_353, h0_reader_number)
     ) else (
      lt1 ((h0_ones : Int32) + 1) fun (x_360 : Int32) =>
      lt1 (y_X6_seesSign 40 h0_reader_kind) fun (r_363 : Int32) =>
      if (r_363 : Int32) = 0 then (
       lt5 (y_X6_advance h0_reader_length h0_reader_faultKind h0_reader_letters h0_reader_mostBytes h0_reader_behind h0_reader_at h0_reader_kind h0_reader_number F_h0_reader_bytes) fun (u_373 : Int64) (u_374 : Int32) (u_375 : Int32) (u_376 : Int32) (u_377 : Int32) =>
       lt8 (y_X8_readOne_7 x_360 h0_reader_length h0_reader_faultKind h0_reader_faultAt u_373 h0_reader_mostBytes u_374 u_375 u_376 u_377 F_h0_reader_bytes r1_jurors r1_floors F_r1_floorName F_r1_jurorName) fun (u_383 : Int32) (u_384 : Int32) (u_385 : Int32) (u_386 : Int64) (u_387 : Int32) (u_388 : Int32) (u_389 : Int32) (u_390 : Int32) =>
       if u_384 = 0 then (
        (u_383, u_384, u_385, u_386, u_387, u_388, u_389, u_390)
       ) else (
        (u_383, u_384, u_385, u_386, u_387, u_388, u_389, u_390)
       )
      ) else (
       lt5 (y_X6_advance h0_reader_length h0_reader_faultKind h0_reader_letters h0_reader_mostBytes h0_reader_behind h0_reader_at h0_reader_kind h0_reader_number F_h0_reader_bytes) fun (u_434 : Int64) (u_435 : Int32) (u_436 : Int32) (u_437 : Int32) (u_438 : Int32) =>
       lt8 (y_X8_readCond_7 x_360 h0_reader_length h0_reader_faultKind h0_reader_faultAt u_434 h0_reader_mostBytes u_435 u_436 u_437 u_438 F_h0_reader_bytes r1_jurors r1_floors F_r1_floorName F_r1_jurorName) fun (u_444 : Int32) (u_445 : Int32) (u_446 : Int32) (u_447 : Int64) (u_448 : Int32) (u_449 : Int32) (u_450 : Int32) (u_451 : Int32) =>
       lt7 (y_X6_takeSign 41 h0_reader_length u_445 u_446 u_447 h0_reader_mostBytes u_448 u_449 u_450 u_451 F_h0_reader_bytes) fun (u_469 : Int32) (u_470 : Int32) (u_471 : Int64) (u_472 : Int32) (u_473 : Int32) (u_474 : Int32) (u_475 : Int32) =>
       (u_444, u_469, u_470, u_471, u_472, u_473, u_474, u_475)
      )
     )
    )
   ) else (
    if (20 : Int32) ≤ h0_ones then (
     lt4 (y_X6_fail 4 h0_reader_faultKind h0_reader_faultAt h0_reader_letters h0_reader_at h0_reader_kind) fun (u_487 : Int32) (u_488 : Int32) (u_489 : Int64) (u_490 : Int32) =>
     (h0_ones, u_487, u_488, u_489, h0_reader_behind, h0_reader_at, u_490, h0_reader_number)
    ) else (
     lt1 ((h0_ones : Int32) + 1) fun (x_497 : Int32) =>
     lt1 (y_X6_seesSign 40 h0_reader_kind) fun (r_500 : Int32) =>
     if (r_500 : Int32) = 0 then (
      lt5 (y_X6_advance h0_reader_length h0_reader_faultKind h0_reader_letters h0_reader_mostBytes h0_reader_behind h0_reader_at h0_reader_kind h0_reader_number F_h0_reader_bytes) fun (u_510 : Int64) (u_511 : Int32) (u_512 : Int32) (u_513 : Int32) (u_514 : Int32) =>
      lt8 (y_X8_readOne_7 x_497 h0_reader_length h0_reader_faultKind h0_reader_faultAt u_510 h0_reader_mostBytes u_511 u_512 u_513 u_514 F_h0_reader_bytes r1_jurors r1_floors F_r1_floorName F_r1_jurorName) fun (u_520 : Int32) (u_521 : Int32) (u_522 : Int32) (u_523 : Int64) (u_524 : Int32) (u_525 : Int32) (u_526 : Int32) (u_527 : Int32) =>
      if u_521 = 0 then (
       (u_520, u_521, u_522, u_523, u_524, u_525, u_526, u_527)
      ) else (
       (u_520, u_521, u_522, u_523, u_524, u_525, u_526, u_527)
      )
     ) else (
      (0, 0, 0, 0, 0, 0, 0, 0)
     )
    )
   )
  ) fun (n_569 : Nat) => (
   if (20 : Int32) ≤ h0_ones then (
    lt4 (y_X6_fail 4 h0_reader_faultKind h0_reader_faultAt h0_reader_letters h0_reader_at h0_reader_kind) fun (u_581 : Int32) (u_582 : Int32) (u_583 : Int64) (u_584 : Int32) =>
    (h0_ones, u_581, u_582, u_583, h0_reader_behind, h0_reader_at, u_584, h0_reader_number)
   ) else (
    lt1 ((h0_ones : Int32) + 1) fun (x_591 : Int32) =>
    lt1 (y_X6_seesSign 40 h0_reader_kind) fun (r_594 : Int32) =>
    if (r_594 : Int32) = 0 then (
     lt5 (y_X6_advance h0_reader_length h0_reader_faultKind h0_reader_letters h0_reader_mostBytes h0_reader_behind h0_reader_at h0_reader_kind h0_reader_number F_h0_reader_bytes) fun (u_604 : Int64) (u_605 : Int32) (u_606 : Int32) (u_607 : Int32) (u_608 : Int32) =>
     lt7 (y_X8_readPlain h0_reader_length h0_reader_faultKind h0_reader_faultAt u_604 h0_reader_mostBytes u_605 u_606 u_607 u_608 F_h0_reader_bytes r1_jurors r1_floors F_r1_floorName F_r1_jurorName n_569) fun (u_614 : Int32) (u_615 : Int32) (u_616 : Int64) (u_617 : Int32) (u_618 : Int32) (u_619 : Int32) (u_620 : Int32) =>
     (x_591, u_614, u_615, u_616, u_617, u_618, u_619, u_620)
    ) else (
     (0, 0, 0, 0, 0, 0, 0, 0)
    )
   )
  )) := rfl
def y_X8_readAll_6_8 (h0_reader_length : Int32) (h0_reader_mostBytes : Int32) (F_h0_reader_bytes : Nat → Int32) (r1_jurors : Int32) (r1_floors : Int32) (F_r1_floorName : Nat → Int64) (F_r1_jurorName : Nat → Int64) : Nat → Int32 → Int32 → Int32 → Int32 → Int64 → Int32 → Int32 → Int32 → Int32 → (Int32 × Int32 × Int32 × Int64 × Int32 × Int32 × Int32 × Int32)
 | 0, _, _, _, _, _, _, _, _, _ => (0, 0, 0, 0, 0, 0, 0, 0)
 | n8 + 1, y8_0, y8_1, y8_2, y8_3, y8_4, y8_5, y8_6, y8_7, y8_8 =>
  if (20 : Int32) ≤ y8_0 then (
   (y8_1, y8_2, y8_3, y8_4, y8_5, y8_6, y8_7, y8_8)
  ) else (
   lt6 (y_X6_takeIf h0_reader_length y8_2 y8_4 h0_reader_mostBytes y8_5 y8_6 y8_7 y8_8 F_h0_reader_bytes 16) fun (r_1060 : Int32) (u_1062 : Int64) (u_1063 : Int32) (u_1064 : Int32) (u_1065 : Int32) (u_1066 : Int32) =>
   if (r_1060 : Int32) = 0 then (
    (y8_1, y8_2, y8_3, u_1062, u_1063, u_1064, u_1065, u_1066)
   ) else (
    lt8 (y_X8_readOne_6 y8_1 h0_reader_length y8_2 y8_3 u_1062 h0_reader_mostBytes u_1063 u_1064 u_1065 u_1066 F_h0_reader_bytes r1_jurors r1_floors F_r1_floorName F_r1_jurorName) fun (u_1085 : Int32) (u_1086 : Int32) (u_1087 : Int32) (u_1088 : Int64) (u_1089 : Int32) (u_1090 : Int32) (u_1091 : Int32) (u_1092 : Int32) =>
    if u_1086 = 0 then (
     lt1 (y8_0 + 1) fun (x_1120 : Int32) =>
     y_X8_readAll_6_8 h0_reader_length h0_reader_mostBytes F_h0_reader_bytes r1_jurors r1_floors F_r1_floorName F_r1_jurorName n8 x_1120 u_1085 u_1086 u_1087 u_1088 u_1089 u_1090 u_1091 u_1092
    ) else (
     lt1 (y8_0 + 1) fun (x_1135 : Int32) =>
     y_X8_readAll_6_8 h0_reader_length h0_reader_mostBytes F_h0_reader_bytes r1_jurors r1_floors F_r1_floorName F_r1_jurorName n8 x_1135 u_1085 u_1086 u_1087 u_1088 u_1089 u_1090 u_1091 u_1092
    )
   )
  )
theorem y_X8_readAll_6_8_s (h0_reader_length : Int32) (h0_reader_mostBytes : Int32) (F_h0_reader_bytes : Nat → Int32) (r1_jurors : Int32) (r1_floors : Int32) (F_r1_floorName : Nat → Int64) (F_r1_jurorName : Nat → Int64) (n8 : Nat) (y8_0 : Int32) (y8_1 : Int32) (y8_2 : Int32) (y8_3 : Int32) (y8_4 : Int64) (y8_5 : Int32) (y8_6 : Int32) (y8_7 : Int32) (y8_8 : Int32) : y_X8_readAll_6_8 h0_reader_length h0_reader_mostBytes F_h0_reader_bytes r1_jurors r1_floors F_r1_floorName F_r1_jurorName (n8 + 1) y8_0 y8_1 y8_2 y8_3 y8_4 y8_5 y8_6 y8_7 y8_8 = (
  if (20 : Int32) ≤ y8_0 then (
   (y8_1, y8_2, y8_3, y8_4, y8_5, y8_6, y8_7, y8_8)
  ) else (
   lt6 (y_X6_takeIf h0_reader_length y8_2 y8_4 h0_reader_mostBytes y8_5 y8_6 y8_7 y8_8 F_h0_reader_bytes 16) fun (r_1060 : Int32) (u_1062 : Int64) (u_1063 : Int32) (u_1064 : Int32) (u_1065 : Int32) (u_1066 : Int32) =>
   if (r_1060 : Int32) = 0 then (
    (y8_1, y8_2, y8_3, u_1062, u_1063, u_1064, u_1065, u_1066)
   ) else (
    lt8 (y_X8_readOne_6 y8_1 h0_reader_length y8_2 y8_3 u_1062 h0_reader_mostBytes u_1063 u_1064 u_1065 u_1066 F_h0_reader_bytes r1_jurors r1_floors F_r1_floorName F_r1_jurorName) fun (u_1085 : Int32) (u_1086 : Int32) (u_1087 : Int32) (u_1088 : Int64) (u_1089 : Int32) (u_1090 : Int32) (u_1091 : Int32) (u_1092 : Int32) =>
    if u_1086 = 0 then (
     lt1 (y8_0 + 1) fun (x_1120 : Int32) =>
     y_X8_readAll_6_8 h0_reader_length h0_reader_mostBytes F_h0_reader_bytes r1_jurors r1_floors F_r1_floorName F_r1_jurorName n8 x_1120 u_1085 u_1086 u_1087 u_1088 u_1089 u_1090 u_1091 u_1092
    ) else (
     lt1 (y8_0 + 1) fun (x_1135 : Int32) =>
     y_X8_readAll_6_8 h0_reader_length h0_reader_mostBytes F_h0_reader_bytes r1_jurors r1_floors F_r1_floorName F_r1_jurorName n8 x_1135 u_1085 u_1086 u_1087 u_1088 u_1089 u_1090 u_1091 u_1092
    )
   )
  )) := rfl
def y_X8_readAll_6 (h0_ones : Int32) (h0_reader_length : Int32) (h0_reader_faultKind : Int32) (h0_reader_faultAt : Int32) (h0_reader_letters : Int64) (h0_reader_mostBytes : Int32) (h0_reader_behind : Int32) (h0_reader_at : Int32) (h0_reader_kind : Int32) (h0_reader_number : Int32) (F_h0_reader_bytes : Nat → Int32) (r1_jurors : Int32) (r1_floors : Int32) (F_r1_floorName : Nat → Int64) (F_r1_jurorName : Nat → Int64)  : Int32 × Int32 × Int32 × Int64 × Int32 × Int32 × Int32 × Int32 :=
  lt8 (y_X8_readOne_6 h0_ones h0_reader_length h0_reader_faultKind h0_reader_faultAt h0_reader_letters h0_reader_mostBytes h0_reader_behind h0_reader_at h0_reader_kind h0_reader_number F_h0_reader_bytes r1_jurors r1_floors F_r1_floorName F_r1_jurorName) fun (u_1141 : Int32) (u_1142 : Int32) (u_1143 : Int32) (u_1144 : Int64) (u_1145 : Int32) (u_1146 : Int32) (u_1147 : Int32) (u_1148 : Int32) =>
  y_X8_readAll_6_8 h0_reader_length h0_reader_mostBytes F_h0_reader_bytes r1_jurors r1_floors F_r1_floorName F_r1_jurorName 21 0 u_1141 u_1142 u_1143 u_1144 u_1145 u_1146 u_1147 u_1148
theorem y_X8_readAll_6_s (h0_ones : Int32) (h0_reader_length : Int32) (h0_reader_faultKind : Int32) (h0_reader_faultAt : Int32) (h0_reader_letters : Int64) (h0_reader_mostBytes : Int32) (h0_reader_behind : Int32) (h0_reader_at : Int32) (h0_reader_kind : Int32) (h0_reader_number : Int32) (F_h0_reader_bytes : Nat → Int32) (r1_jurors : Int32) (r1_floors : Int32) (F_r1_floorName : Nat → Int64) (F_r1_jurorName : Nat → Int64)  : y_X8_readAll_6 h0_ones h0_reader_length h0_reader_faultKind h0_reader_faultAt h0_reader_letters h0_reader_mostBytes h0_reader_behind h0_reader_at h0_reader_kind h0_reader_number F_h0_reader_bytes r1_jurors r1_floors F_r1_floorName F_r1_jurorName = (
  lt8 (y_X8_readOne_6 h0_ones h0_reader_length h0_reader_faultKind h0_reader_faultAt h0_reader_letters h0_reader_mostBytes h0_reader_behind h0_reader_at h0_reader_kind h0_reader_number F_h0_reader_bytes r1_jurors r1_floors F_r1_floorName F_r1_jurorName) fun (u_1141 : Int32) (u_1142 : Int32) (u_1143 : Int32) (u_1144 : Int64) (u_1145 : Int32) (u_1146 : Int32) (u_1147 : Int32) (u_1148 : Int32) =>
  y_X8_readAll_6_8 h0_reader_length h0_reader_mostBytes F_h0_reader_bytes r1_jurors r1_floors F_r1_floorName F_r1_jurorName 21 0 u_1141 u_1142 u_1143 u_1144 u_1145 u_1146 u_1147 u_1148) := rfl
def y_X8_readCond_6_8 (h0_reader_length : Int32) (h0_reader_mostBytes : Int32) (F_h0_reader_bytes : Nat → Int32) (r1_jurors : Int32) (r1_floors : Int32) (F_r1_floorName : Nat → Int64) (F_r1_jurorName : Nat → Int64) : Nat → Int32 → Int32 → Int32 → Int32 → Int64 → Int32 → Int32 → Int32 → Int32 → (Int32 × Int32 × Int32 × Int64 × Int32 × Int32 × Int32 × Int32)
 | 0, _, _, _, _, _, _, _, _, _ => (0, 0, 0, 0, 0, 0, 0, 0)
 | n8 + 1, y8_0, y8_1, y8_2, y8_3, y8_4, y8_5, y8_6, y8_7, y8_8 =>
  if (20 : Int32) ≤ y8_0 then (
   (y8_1, y8_2, y8_3, y8_4, y8_5, y8_6, y8_7, y8_8)
  ) else (
   lt6 (y_X6_takeIf h0_reader_length y8_2 y8_4 h0_reader_mostBytes y8_5 y8_6 y8_7 y8_8 F_h0_reader_bytes 15) fun (r_1060 : Int32) (u_1062 : Int64) (u_1063 : Int32) (u_1064 : Int32) (u_1065 : Int32) (u_1066 : Int32) =>
   if (r_1060 : Int32) = 0 then (
    (y8_1, y8_2, y8_3, u_1062, u_1063, u_1064, u_1065, u_1066)
   ) else (
    lt8 (y_X8_readAll_6 y8_1 h0_reader_length y8_2 y8_3 u_1062 h0_reader_mostBytes u_1063 u_1064 u_1065 u_1066 F_h0_reader_bytes r1_jurors r1_floors F_r1_floorName F_r1_jurorName) fun (u_1085 : Int32) (u_1086 : Int32) (u_1087 : Int32) (u_1088 : Int64) (u_1089 : Int32) (u_1090 : Int32) (u_1091 : Int32) (u_1092 : Int32) =>
    if u_1086 = 0 then (
     lt1 (y8_0 + 1) fun (x_1120 : Int32) =>
     y_X8_readCond_6_8 h0_reader_length h0_reader_mostBytes F_h0_reader_bytes r1_jurors r1_floors F_r1_floorName F_r1_jurorName n8 x_1120 u_1085 u_1086 u_1087 u_1088 u_1089 u_1090 u_1091 u_1092
    ) else (
     lt1 (y8_0 + 1) fun (x_1135 : Int32) =>
     y_X8_readCond_6_8 h0_reader_length h0_reader_mostBytes F_h0_reader_bytes r1_jurors r1_floors F_r1_floorName F_r1_jurorName n8 x_1135 u_1085 u_1086 u_1087 u_1088 u_1089 u_1090 u_1091 u_1092
    )
   )
  )
theorem y_X8_readCond_6_8_s (h0_reader_length : Int32) (h0_reader_mostBytes : Int32) (F_h0_reader_bytes : Nat → Int32) (r1_jurors : Int32) (r1_floors : Int32) (F_r1_floorName : Nat → Int64) (F_r1_jurorName : Nat → Int64) (n8 : Nat) (y8_0 : Int32) (y8_1 : Int32) (y8_2 : Int32) (y8_3 : Int32) (y8_4 : Int64) (y8_5 : Int32) (y8_6 : Int32) (y8_7 : Int32) (y8_8 : Int32) : y_X8_readCond_6_8 h0_reader_length h0_reader_mostBytes F_h0_reader_bytes r1_jurors r1_floors F_r1_floorName F_r1_jurorName (n8 + 1) y8_0 y8_1 y8_2 y8_3 y8_4 y8_5 y8_6 y8_7 y8_8 = (
  if (20 : Int32) ≤ y8_0 then (
   (y8_1, y8_2, y8_3, y8_4, y8_5, y8_6, y8_7, y8_8)
  ) else (
   lt6 (y_X6_takeIf h0_reader_length y8_2 y8_4 h0_reader_mostBytes y8_5 y8_6 y8_7 y8_8 F_h0_reader_bytes 15) fun (r_1060 : Int32) (u_1062 : Int64) (u_1063 : Int32) (u_1064 : Int32) (u_1065 : Int32) (u_1066 : Int32) =>
   if (r_1060 : Int32) = 0 then (
    (y8_1, y8_2, y8_3, u_1062, u_1063, u_1064, u_1065, u_1066)
   ) else (
    lt8 (y_X8_readAll_6 y8_1 h0_reader_length y8_2 y8_3 u_1062 h0_reader_mostBytes u_1063 u_1064 u_1065 u_1066 F_h0_reader_bytes r1_jurors r1_floors F_r1_floorName F_r1_jurorName) fun (u_1085 : Int32) (u_1086 : Int32) (u_1087 : Int32) (u_1088 : Int64) (u_1089 : Int32) (u_1090 : Int32) (u_1091 : Int32) (u_1092 : Int32) =>
    if u_1086 = 0 then (
     lt1 (y8_0 + 1) fun (x_1120 : Int32) =>
     y_X8_readCond_6_8 h0_reader_length h0_reader_mostBytes F_h0_reader_bytes r1_jurors r1_floors F_r1_floorName F_r1_jurorName n8 x_1120 u_1085 u_1086 u_1087 u_1088 u_1089 u_1090 u_1091 u_1092
    ) else (
     lt1 (y8_0 + 1) fun (x_1135 : Int32) =>
     y_X8_readCond_6_8 h0_reader_length h0_reader_mostBytes F_h0_reader_bytes r1_jurors r1_floors F_r1_floorName F_r1_jurorName n8 x_1135 u_1085 u_1086 u_1087 u_1088 u_1089 u_1090 u_1091 u_1092
    )
   )
  )) := rfl
def y_X8_readCond_6 (h0_ones : Int32) (h0_reader_length : Int32) (h0_reader_faultKind : Int32) (h0_reader_faultAt : Int32) (h0_reader_letters : Int64) (h0_reader_mostBytes : Int32) (h0_reader_behind : Int32) (h0_reader_at : Int32) (h0_reader_kind : Int32) (h0_reader_number : Int32) (F_h0_reader_bytes : Nat → Int32) (r1_jurors : Int32) (r1_floors : Int32) (F_r1_floorName : Nat → Int64) (F_r1_jurorName : Nat → Int64)  : Int32 × Int32 × Int32 × Int64 × Int32 × Int32 × Int32 × Int32 :=
  lt8 (y_X8_readAll_6 h0_ones h0_reader_length h0_reader_faultKind h0_reader_faultAt h0_reader_letters h0_reader_mostBytes h0_reader_behind h0_reader_at h0_reader_kind h0_reader_number F_h0_reader_bytes r1_jurors r1_floors F_r1_floorName F_r1_jurorName) fun (u_1141 : Int32) (u_1142 : Int32) (u_1143 : Int32) (u_1144 : Int64) (u_1145 : Int32) (u_1146 : Int32) (u_1147 : Int32) (u_1148 : Int32) =>
  y_X8_readCond_6_8 h0_reader_length h0_reader_mostBytes F_h0_reader_bytes r1_jurors r1_floors F_r1_floorName F_r1_jurorName 21 0 u_1141 u_1142 u_1143 u_1144 u_1145 u_1146 u_1147 u_1148
theorem y_X8_readCond_6_s (h0_ones : Int32) (h0_reader_length : Int32) (h0_reader_faultKind : Int32) (h0_reader_faultAt : Int32) (h0_reader_letters : Int64) (h0_reader_mostBytes : Int32) (h0_reader_behind : Int32) (h0_reader_at : Int32) (h0_reader_kind : Int32) (h0_reader_number : Int32) (F_h0_reader_bytes : Nat → Int32) (r1_jurors : Int32) (r1_floors : Int32) (F_r1_floorName : Nat → Int64) (F_r1_jurorName : Nat → Int64)  : y_X8_readCond_6 h0_ones h0_reader_length h0_reader_faultKind h0_reader_faultAt h0_reader_letters h0_reader_mostBytes h0_reader_behind h0_reader_at h0_reader_kind h0_reader_number F_h0_reader_bytes r1_jurors r1_floors F_r1_floorName F_r1_jurorName = (
  lt8 (y_X8_readAll_6 h0_ones h0_reader_length h0_reader_faultKind h0_reader_faultAt h0_reader_letters h0_reader_mostBytes h0_reader_behind h0_reader_at h0_reader_kind h0_reader_number F_h0_reader_bytes r1_jurors r1_floors F_r1_floorName F_r1_jurorName) fun (u_1141 : Int32) (u_1142 : Int32) (u_1143 : Int32) (u_1144 : Int64) (u_1145 : Int32) (u_1146 : Int32) (u_1147 : Int32) (u_1148 : Int32) =>
  y_X8_readCond_6_8 h0_reader_length h0_reader_mostBytes F_h0_reader_bytes r1_jurors r1_floors F_r1_floorName F_r1_jurorName 21 0 u_1141 u_1142 u_1143 u_1144 u_1145 u_1146 u_1147 u_1148) := rfl
def y_X8_readOne_5 (h0_ones : Int32) (h0_reader_length : Int32) (h0_reader_faultKind : Int32) (h0_reader_faultAt : Int32) (h0_reader_letters : Int64) (h0_reader_mostBytes : Int32) (h0_reader_behind : Int32) (h0_reader_at : Int32) (h0_reader_kind : Int32) (h0_reader_number : Int32) (F_h0_reader_bytes : Nat → Int32) (r1_jurors : Int32) (r1_floors : Int32) (F_r1_floorName : Nat → Int64) (F_r1_jurorName : Nat → Int64)  : Int32 × Int32 × Int32 × Int64 × Int32 × Int32 × Int32 × Int32 :=
  lo (y_X8_plainWord h0_reader_letters h0_reader_kind) (
   lt1 (y_X6_sees h0_reader_letters h0_reader_kind 17) fun (r_318 : Int32) =>
   if (r_318 : Int32) = 0 then (
    lt1 (y_X6_seesSign 40 h0_reader_kind) fun (r_325 : Int32) =>
    if (r_325 : Int32) = 0 then (
     lt4 (y_X6_fail 1 h0_reader_faultKind h0_reader_faultAt h0_reader_letters h0_reader_at h0_reader_kind) fun (u_335 : Int32) (u_336 : Int32) (u_337 : Int64) (u_338 : Int32) =>
     (h0_ones, u_335, u_336, u_337, h0_reader_behind, h0_reader_at, u_338, h0_reader_number)
    ) else (
     if (20 : Int32) ≤ h0_ones then (
      lt4 (y_X6_fail 4 h0_reader_faultKind h0_reader_faultAt h0_reader_letters h0_reader_at h0_reader_kind) fun (u_350 : Int32) (u_351 : Int32) (u_352 : Int64) (u_353 : Int32) =>
      (h0_ones, u_350, u_351, u_352, h0_reader_behind, h0_reader_at, u_353, h0_reader_number)
     ) else (
      lt1 ((h0_ones : Int32) + 1) fun (x_360 : Int32) =>
      lt1 (y_X6_seesSign 40 h0_reader_kind) fun (r_363 : Int32) =>
      if (r_363 : Int32) = 0 then (
       lt5 (y_X6_advance h0_reader_length h0_reader_faultKind h0_reader_letters h0_reader_mostBytes h0_reader_behind h0_reader_at h0_reader_kind h0_reader_number F_h0_reader_bytes) fun (u_373 : Int64) (u_374 : Int32) (u_375 : Int32) (u_376 : Int32) (u_377 : Int32) =>
       lt8 (y_X8_readOne_6 x_360 h0_reader_length h0_reader_faultKind h0_reader_faultAt u_373 h0_reader_mostBytes u_374 u_375 u_376 u_377 F_h0_reader_bytes r1_jurors r1_floors F_r1_floorName F_r1_jurorName) fun (u_383 : Int32) (u_384 : Int32) (u_385 : Int32) (u_386 : Int64) (u_387 : Int32) (u_388 : Int32) (u_389 : Int32) (u_390 : Int32) =>
       if u_384 = 0 then (
        (u_383, u_384, u_385, u_386, u_387, u_388, u_389, u_390)
       ) else (
        (u_383, u_384, u_385, u_386, u_387, u_388, u_389, u_390)
       )
      ) else (
       lt5 (y_X6_advance h0_reader_length h0_reader_faultKind h0_reader_letters h0_reader_mostBytes h0_reader_behind h0_reader_at h0_reader_kind h0_reader_number F_h0_reader_bytes) fun (u_434 : Int64) (u_435 : Int32) (u_436 : Int32) (u_437 : Int32) (u_438 : Int32) =>
       lt8 (y_X8_readCond_6 x_360 h0_reader_length h0_reader_faultKind h0_reader_faultAt u_434 h0_reader_mostBytes u_435 u_436 u_437 u_438 F_h0_reader_bytes r1_jurors r1_floors F_r1_floorName F_r1_jurorName) fun (u_444 : Int32) (u_445 : Int32) (u_446 : Int32) (u_447 : Int64) (u_448 : Int32) (u_449 : Int32) (u_450 : Int32) (u_451 : Int32) =>
       lt7 (y_X6_takeSign 41 h0_reader_length u_445 u_446 u_447 h0_reader_mostBytes u_448 u_449 u_450 u_451 F_h0_reader_bytes) fun (u_469 : Int32) (u_470 : Int32) (u_471 : Int64) (u_472 : Int32) (u_473 : Int32) (u_474 : Int32) (u_475 : Int32) =>
       (u_444, u_469, u_470, u_471, u_472, u_473, u_474, u_475)
      )
     )
    )
   ) else (
    if (20 : Int32) ≤ h0_ones then (
     lt4 (y_X6_fail 4 h0_reader_faultKind h0_reader_faultAt h0_reader_letters h0_reader_at h0_reader_kind) fun (u_487 : Int32) (u_488 : Int32) (u_489 : Int64) (u_490 : Int32) =>
     (h0_ones, u_487, u_488, u_489, h0_reader_behind, h0_reader_at, u_490, h0_reader_number)
    ) else (
     lt1 ((h0_ones : Int32) + 1) fun (x_497 : Int32) =>
     lt1 (y_X6_seesSign 40 h0_reader_kind) fun (r_500 : Int32) =>
     if (r_500 : Int32) = 0 then (
      lt5 (y_X6_advance h0_reader_length h0_reader_faultKind h0_reader_letters h0_reader_mostBytes h0_reader_behind h0_reader_at h0_reader_kind h0_reader_number F_h0_reader_bytes) fun (u_510 : Int64) (u_511 : Int32) (u_512 : Int32) (u_513 : Int32) (u_514 : Int32) =>
      lt8 (y_X8_readOne_6 x_497 h0_reader_length h0_reader_faultKind h0_reader_faultAt u_510 h0_reader_mostBytes u_511 u_512 u_513 u_514 F_h0_reader_bytes r1_jurors r1_floors F_r1_floorName F_r1_jurorName) fun (u_520 : Int32) (u_521 : Int32) (u_522 : Int32) (u_523 : Int64) (u_524 : Int32) (u_525 : Int32) (u_526 : Int32) (u_527 : Int32) =>
      if u_521 = 0 then (
       (u_520, u_521, u_522, u_523, u_524, u_525, u_526, u_527)
      ) else (
       (u_520, u_521, u_522, u_523, u_524, u_525, u_526, u_527)
      )
     ) else (
      (0, 0, 0, 0, 0, 0, 0, 0)
     )
    )
   )
  ) fun (n_569 : Nat) => (
   if (20 : Int32) ≤ h0_ones then (
    lt4 (y_X6_fail 4 h0_reader_faultKind h0_reader_faultAt h0_reader_letters h0_reader_at h0_reader_kind) fun (u_581 : Int32) (u_582 : Int32) (u_583 : Int64) (u_584 : Int32) =>
    (h0_ones, u_581, u_582, u_583, h0_reader_behind, h0_reader_at, u_584, h0_reader_number)
   ) else (
    lt1 ((h0_ones : Int32) + 1) fun (x_591 : Int32) =>
    lt1 (y_X6_seesSign 40 h0_reader_kind) fun (r_594 : Int32) =>
    if (r_594 : Int32) = 0 then (
     lt5 (y_X6_advance h0_reader_length h0_reader_faultKind h0_reader_letters h0_reader_mostBytes h0_reader_behind h0_reader_at h0_reader_kind h0_reader_number F_h0_reader_bytes) fun (u_604 : Int64) (u_605 : Int32) (u_606 : Int32) (u_607 : Int32) (u_608 : Int32) =>
     lt7 (y_X8_readPlain h0_reader_length h0_reader_faultKind h0_reader_faultAt u_604 h0_reader_mostBytes u_605 u_606 u_607 u_608 F_h0_reader_bytes r1_jurors r1_floors F_r1_floorName F_r1_jurorName n_569) fun (u_614 : Int32) (u_615 : Int32) (u_616 : Int64) (u_617 : Int32) (u_618 : Int32) (u_619 : Int32) (u_620 : Int32) =>
     (x_591, u_614, u_615, u_616, u_617, u_618, u_619, u_620)
    ) else (
     (0, 0, 0, 0, 0, 0, 0, 0)
    )
   )
  )
theorem y_X8_readOne_5_s (h0_ones : Int32) (h0_reader_length : Int32) (h0_reader_faultKind : Int32) (h0_reader_faultAt : Int32) (h0_reader_letters : Int64) (h0_reader_mostBytes : Int32) (h0_reader_behind : Int32) (h0_reader_at : Int32) (h0_reader_kind : Int32) (h0_reader_number : Int32) (F_h0_reader_bytes : Nat → Int32) (r1_jurors : Int32) (r1_floors : Int32) (F_r1_floorName : Nat → Int64) (F_r1_jurorName : Nat → Int64)  : y_X8_readOne_5 h0_ones h0_reader_length h0_reader_faultKind h0_reader_faultAt h0_reader_letters h0_reader_mostBytes h0_reader_behind h0_reader_at h0_reader_kind h0_reader_number F_h0_reader_bytes r1_jurors r1_floors F_r1_floorName F_r1_jurorName = (
  lo (y_X8_plainWord h0_reader_letters h0_reader_kind) (
   lt1 (y_X6_sees h0_reader_letters h0_reader_kind 17) fun (r_318 : Int32) =>
   if (r_318 : Int32) = 0 then (
    lt1 (y_X6_seesSign 40 h0_reader_kind) fun (r_325 : Int32) =>
    if (r_325 : Int32) = 0 then (
     lt4 (y_X6_fail 1 h0_reader_faultKind h0_reader_faultAt h0_reader_letters h0_reader_at h0_reader_kind) fun (u_335 : Int32) (u_336 : Int32) (u_337 : Int64) (u_338 : Int32) =>
     (h0_ones, u_335, u_336, u_337, h0_reader_behind, h0_reader_at, u_338, h0_reader_number)
    ) else (
     if (20 : Int32) ≤ h0_ones then (
      lt4 (y_X6_fail 4 h0_reader_faultKind h0_reader_faultAt h0_reader_letters h0_reader_at h0_reader_kind) fun (u_350 : Int32) (u_351 : Int32) (u_352 : Int64) (u_353 : Int32) =>
      (h0_ones, u_350, u_351, u_352, h0_reader_behind, h0_reader_at, u_353, h0_reader_number)
     ) else (
      lt1 ((h0_ones : Int32) + 1) fun (x_360 : Int32) =>
      lt1 (y_X6_seesSign 40 h0_reader_kind) fun (r_363 : Int32) =>
      if (r_363 : Int32) = 0 then (
       lt5 (y_X6_advance h0_reader_length h0_reader_faultKind h0_reader_letters h0_reader_mostBytes h0_reader_behind h0_reader_at h0_reader_kind h0_reader_number F_h0_reader_bytes) fun (u_373 : Int64) (u_374 : Int32) (u_375 : Int32) (u_376 : Int32) (u_377 : Int32) =>
       lt8 (y_X8_readOne_6 x_360 h0_reader_length h0_reader_faultKind h0_reader_faultAt u_373 h0_reader_mostBytes u_374 u_375 u_376 u_377 F_h0_reader_bytes r1_jurors r1_floors F_r1_floorName F_r1_jurorName) fun (u_383 : Int32) (u_384 : Int32) (u_385 : Int32) (u_386 : Int64) (u_387 : Int32) (u_388 : Int32) (u_389 : Int32) (u_390 : Int32) =>
       if u_384 = 0 then (
        (u_383, u_384, u_385, u_386, u_387, u_388, u_389, u_390)
       ) else (
        (u_383, u_384, u_385, u_386, u_387, u_388, u_389, u_390)
       )
      ) else (
       lt5 (y_X6_advance h0_reader_length h0_reader_faultKind h0_reader_letters h0_reader_mostBytes h0_reader_behind h0_reader_at h0_reader_kind h0_reader_number F_h0_reader_bytes) fun (u_434 : Int64) (u_435 : Int32) (u_436 : Int32) (u_437 : Int32) (u_438 : Int32) =>
       lt8 (y_X8_readCond_6 x_360 h0_reader_length h0_reader_faultKind h0_reader_faultAt u_434 h0_reader_mostBytes u_435 u_436 u_437 u_438 F_h0_reader_bytes r1_jurors r1_floors F_r1_floorName F_r1_jurorName) fun (u_444 : Int32) (u_445 : Int32) (u_446 : Int32) (u_447 : Int64) (u_448 : Int32) (u_449 : Int32) (u_450 : Int32) (u_451 : Int32) =>
       lt7 (y_X6_takeSign 41 h0_reader_length u_445 u_446 u_447 h0_reader_mostBytes u_448 u_449 u_450 u_451 F_h0_reader_bytes) fun (u_469 : Int32) (u_470 : Int32) (u_471 : Int64) (u_472 : Int32) (u_473 : Int32) (u_474 : Int32) (u_475 : Int32) =>
       (u_444, u_469, u_470, u_471, u_472, u_473, u_474, u_475)
      )
     )
    )
   ) else (
    if (20 : Int32) ≤ h0_ones then (
     lt4 (y_X6_fail 4 h0_reader_faultKind h0_reader_faultAt h0_reader_letters h0_reader_at h0_reader_kind) fun (u_487 : Int32) (u_488 : Int32) (u_489 : Int64) (u_490 : Int32) =>
     (h0_ones, u_487, u_488, u_489, h0_reader_behind, h0_reader_at, u_490, h0_reader_number)
    ) else (
     lt1 ((h0_ones : Int32) + 1) fun (x_497 : Int32) =>
     lt1 (y_X6_seesSign 40 h0_reader_kind) fun (r_500 : Int32) =>
     if (r_500 : Int32) = 0 then (
      lt5 (y_X6_advance h0_reader_length h0_reader_faultKind h0_reader_letters h0_reader_mostBytes h0_reader_behind h0_reader_at h0_reader_kind h0_reader_number F_h0_reader_bytes) fun (u_510 : Int64) (u_511 : Int32) (u_512 : Int32) (u_513 : Int32) (u_514 : Int32) =>
      lt8 (y_X8_readOne_6 x_497 h0_reader_length h0_reader_faultKind h0_reader_faultAt u_510 h0_reader_mostBytes u_511 u_512 u_513 u_514 F_h0_reader_bytes r1_jurors r1_floors F_r1_floorName F_r1_jurorName) fun (u_520 : Int32) (u_521 : Int32) (u_522 : Int32) (u_523 : Int64) (u_524 : Int32) (u_525 : Int32) (u_526 : Int32) (u_527 : Int32) =>
      if u_521 = 0 then (
       (u_520, u_521, u_522, u_523, u_524, u_525, u_526, u_527)
      ) else (
       (u_520, u_521, u_522, u_523, u_524, u_525, u_526, u_527)
      )
     ) else (
      (0, 0, 0, 0, 0, 0, 0, 0)
     )
    )
   )
  ) fun (n_569 : Nat) => (
   if (20 : Int32) ≤ h0_ones then (
    lt4 (y_X6_fail 4 h0_reader_faultKind h0_reader_faultAt h0_reader_letters h0_reader_at h0_reader_kind) fun (u_581 : Int32) (u_582 : Int32) (u_583 : Int64) (u_584 : Int32) =>
    (h0_ones, u_581, u_582, u_583, h0_reader_behind, h0_reader_at, u_584, h0_reader_number)
   ) else (
    lt1 ((h0_ones : Int32) + 1) fun (x_591 : Int32) =>
    lt1 (y_X6_seesSign 40 h0_reader_kind) fun (r_594 : Int32) =>
    if (r_594 : Int32) = 0 then (
     lt5 (y_X6_advance h0_reader_length h0_reader_faultKind h0_reader_letters h0_reader_mostBytes h0_reader_behind h0_reader_at h0_reader_kind h0_reader_number F_h0_reader_bytes) fun (u_604 : Int64) (u_605 : Int32) (u_606 : Int32) (u_607 : Int32) (u_608 : Int32) =>
     lt7 (y_X8_readPlain h0_reader_length h0_reader_faultKind h0_reader_faultAt u_604 h0_reader_mostBytes u_605 u_606 u_607 u_608 F_h0_reader_bytes r1_jurors r1_floors F_r1_floorName F_r1_jurorName n_569) fun (u_614 : Int32) (u_615 : Int32) (u_616 : Int64) (u_617 : Int32) (u_618 : Int32) (u_619 : Int32) (u_620 : Int32) =>
     (x_591, u_614, u_615, u_616, u_617, u_618, u_619, u_620)
    ) else (
     (0, 0, 0, 0, 0, 0, 0, 0)
    )
   )
  )) := rfl
def y_X8_readAll_5_8 (h0_reader_length : Int32) (h0_reader_mostBytes : Int32) (F_h0_reader_bytes : Nat → Int32) (r1_jurors : Int32) (r1_floors : Int32) (F_r1_floorName : Nat → Int64) (F_r1_jurorName : Nat → Int64) : Nat → Int32 → Int32 → Int32 → Int32 → Int64 → Int32 → Int32 → Int32 → Int32 → (Int32 × Int32 × Int32 × Int64 × Int32 × Int32 × Int32 × Int32)
 | 0, _, _, _, _, _, _, _, _, _ => (0, 0, 0, 0, 0, 0, 0, 0)
 | n8 + 1, y8_0, y8_1, y8_2, y8_3, y8_4, y8_5, y8_6, y8_7, y8_8 =>
  if (20 : Int32) ≤ y8_0 then (
   (y8_1, y8_2, y8_3, y8_4, y8_5, y8_6, y8_7, y8_8)
  ) else (
   lt6 (y_X6_takeIf h0_reader_length y8_2 y8_4 h0_reader_mostBytes y8_5 y8_6 y8_7 y8_8 F_h0_reader_bytes 16) fun (r_1060 : Int32) (u_1062 : Int64) (u_1063 : Int32) (u_1064 : Int32) (u_1065 : Int32) (u_1066 : Int32) =>
   if (r_1060 : Int32) = 0 then (
    (y8_1, y8_2, y8_3, u_1062, u_1063, u_1064, u_1065, u_1066)
   ) else (
    lt8 (y_X8_readOne_5 y8_1 h0_reader_length y8_2 y8_3 u_1062 h0_reader_mostBytes u_1063 u_1064 u_1065 u_1066 F_h0_reader_bytes r1_jurors r1_floors F_r1_floorName F_r1_jurorName) fun (u_1085 : Int32) (u_1086 : Int32) (u_1087 : Int32) (u_1088 : Int64) (u_1089 : Int32) (u_1090 : Int32) (u_1091 : Int32) (u_1092 : Int32) =>
    if u_1086 = 0 then (
     lt1 (y8_0 + 1) fun (x_1120 : Int32) =>
     y_X8_readAll_5_8 h0_reader_length h0_reader_mostBytes F_h0_reader_bytes r1_jurors r1_floors F_r1_floorName F_r1_jurorName n8 x_1120 u_1085 u_1086 u_1087 u_1088 u_1089 u_1090 u_1091 u_1092
    ) else (
     lt1 (y8_0 + 1) fun (x_1135 : Int32) =>
     y_X8_readAll_5_8 h0_reader_length h0_reader_mostBytes F_h0_reader_bytes r1_jurors r1_floors F_r1_floorName F_r1_jurorName n8 x_1135 u_1085 u_1086 u_1087 u_1088 u_1089 u_1090 u_1091 u_1092
    )
   )
  )
theorem y_X8_readAll_5_8_s (h0_reader_length : Int32) (h0_reader_mostBytes : Int32) (F_h0_reader_bytes : Nat → Int32) (r1_jurors : Int32) (r1_floors : Int32) (F_r1_floorName : Nat → Int64) (F_r1_jurorName : Nat → Int64) (n8 : Nat) (y8_0 : Int32) (y8_1 : Int32) (y8_2 : Int32) (y8_3 : Int32) (y8_4 : Int64) (y8_5 : Int32) (y8_6 : Int32) (y8_7 : Int32) (y8_8 : Int32) : y_X8_readAll_5_8 h0_reader_length h0_reader_mostBytes F_h0_reader_bytes r1_jurors r1_floors F_r1_floorName F_r1_jurorName (n8 + 1) y8_0 y8_1 y8_2 y8_3 y8_4 y8_5 y8_6 y8_7 y8_8 = (
  if (20 : Int32) ≤ y8_0 then (
   (y8_1, y8_2, y8_3, y8_4, y8_5, y8_6, y8_7, y8_8)
  ) else (
   lt6 (y_X6_takeIf h0_reader_length y8_2 y8_4 h0_reader_mostBytes y8_5 y8_6 y8_7 y8_8 F_h0_reader_bytes 16) fun (r_1060 : Int32) (u_1062 : Int64) (u_1063 : Int32) (u_1064 : Int32) (u_1065 : Int32) (u_1066 : Int32) =>
   if (r_1060 : Int32) = 0 then (
    (y8_1, y8_2, y8_3, u_1062, u_1063, u_1064, u_1065, u_1066)
   ) else (
    lt8 (y_X8_readOne_5 y8_1 h0_reader_length y8_2 y8_3 u_1062 h0_reader_mostBytes u_1063 u_1064 u_1065 u_1066 F_h0_reader_bytes r1_jurors r1_floors F_r1_floorName F_r1_jurorName) fun (u_1085 : Int32) (u_1086 : Int32) (u_1087 : Int32) (u_1088 : Int64) (u_1089 : Int32) (u_1090 : Int32) (u_1091 : Int32) (u_1092 : Int32) =>
    if u_1086 = 0 then (
     lt1 (y8_0 + 1) fun (x_1120 : Int32) =>
     y_X8_readAll_5_8 h0_reader_length h0_reader_mostBytes F_h0_reader_bytes r1_jurors r1_floors F_r1_floorName F_r1_jurorName n8 x_1120 u_1085 u_1086 u_1087 u_1088 u_1089 u_1090 u_1091 u_1092
    ) else (
     lt1 (y8_0 + 1) fun (x_1135 : Int32) =>
     y_X8_readAll_5_8 h0_reader_length h0_reader_mostBytes F_h0_reader_bytes r1_jurors r1_floors F_r1_floorName F_r1_jurorName n8 x_1135 u_1085 u_1086 u_1087 u_1088 u_1089 u_1090 u_1091 u_1092
    )
   )
  )) := rfl
def y_X8_readAll_5 (h0_ones : Int32) (h0_reader_length : Int32) (h0_reader_faultKind : Int32) (h0_reader_faultAt : Int32) (h0_reader_letters : Int64) (h0_reader_mostBytes : Int32) (h0_reader_behind : Int32) (h0_reader_at : Int32) (h0_reader_kind : Int32) (h0_reader_number : Int32) (F_h0_reader_bytes : Nat → Int32) (r1_jurors : Int32) (r1_floors : Int32) (F_r1_floorName : Nat → Int64) (F_r1_jurorName : Nat → Int64)  : Int32 × Int32 × Int32 × Int64 × Int32 × Int32 × Int32 × Int32 :=
  lt8 (y_X8_readOne_5 h0_ones h0_reader_length h0_reader_faultKind h0_reader_faultAt h0_reader_letters h0_reader_mostBytes h0_reader_behind h0_reader_at h0_reader_kind h0_reader_number F_h0_reader_bytes r1_jurors r1_floors F_r1_floorName F_r1_jurorName) fun (u_1141 : Int32) (u_1142 : Int32) (u_1143 : Int32) (u_1144 : Int64) (u_1145 : Int32) (u_1146 : Int32) (u_1147 : Int32) (u_1148 : Int32) =>
  y_X8_readAll_5_8 h0_reader_length h0_reader_mostBytes F_h0_reader_bytes r1_jurors r1_floors F_r1_floorName F_r1_jurorName 21 0 u_1141 u_1142 u_1143 u_1144 u_1145 u_1146 u_1147 u_1148
theorem y_X8_readAll_5_s (h0_ones : Int32) (h0_reader_length : Int32) (h0_reader_faultKind : Int32) (h0_reader_faultAt : Int32) (h0_reader_letters : Int64) (h0_reader_mostBytes : Int32) (h0_reader_behind : Int32) (h0_reader_at : Int32) (h0_reader_kind : Int32) (h0_reader_number : Int32) (F_h0_reader_bytes : Nat → Int32) (r1_jurors : Int32) (r1_floors : Int32) (F_r1_floorName : Nat → Int64) (F_r1_jurorName : Nat → Int64)  : y_X8_readAll_5 h0_ones h0_reader_length h0_reader_faultKind h0_reader_faultAt h0_reader_letters h0_reader_mostBytes h0_reader_behind h0_reader_at h0_reader_kind h0_reader_number F_h0_reader_bytes r1_jurors r1_floors F_r1_floorName F_r1_jurorName = (
  lt8 (y_X8_readOne_5 h0_ones h0_reader_length h0_reader_faultKind h0_reader_faultAt h0_reader_letters h0_reader_mostBytes h0_reader_behind h0_reader_at h0_reader_kind h0_reader_number F_h0_reader_bytes r1_jurors r1_floors F_r1_floorName F_r1_jurorName) fun (u_1141 : Int32) (u_1142 : Int32) (u_1143 : Int32) (u_1144 : Int64) (u_1145 : Int32) (u_1146 : Int32) (u_1147 : Int32) (u_1148 : Int32) =>
  y_X8_readAll_5_8 h0_reader_length h0_reader_mostBytes F_h0_reader_bytes r1_jurors r1_floors F_r1_floorName F_r1_jurorName 21 0 u_1141 u_1142 u_1143 u_1144 u_1145 u_1146 u_1147 u_1148) := rfl
def y_X8_readCond_5_8 (h0_reader_length : Int32) (h0_reader_mostBytes : Int32) (F_h0_reader_bytes : Nat → Int32) (r1_jurors : Int32) (r1_floors : Int32) (F_r1_floorName : Nat → Int64) (F_r1_jurorName : Nat → Int64) : Nat → Int32 → Int32 → Int32 → Int32 → Int64 → Int32 → Int32 → Int32 → Int32 → (Int32 × Int32 × Int32 × Int64 × Int32 × Int32 × Int32 × Int32)
 | 0, _, _, _, _, _, _, _, _, _ => (0, 0, 0, 0, 0, 0, 0, 0)
 | n8 + 1, y8_0, y8_1, y8_2, y8_3, y8_4, y8_5, y8_6, y8_7, y8_8 =>
  if (20 : Int32) ≤ y8_0 then (
   (y8_1, y8_2, y8_3, y8_4, y8_5, y8_6, y8_7, y8_8)
  ) else (
   lt6 (y_X6_takeIf h0_reader_length y8_2 y8_4 h0_reader_mostBytes y8_5 y8_6 y8_7 y8_8 F_h0_reader_bytes 15) fun (r_1060 : Int32) (u_1062 : Int64) (u_1063 : Int32) (u_1064 : Int32) (u_1065 : Int32) (u_1066 : Int32) =>
   if (r_1060 : Int32) = 0 then (
    (y8_1, y8_2, y8_3, u_1062, u_1063, u_1064, u_1065, u_1066)
   ) else (
    lt8 (y_X8_readAll_5 y8_1 h0_reader_length y8_2 y8_3 u_1062 h0_reader_mostBytes u_1063 u_1064 u_1065 u_1066 F_h0_reader_bytes r1_jurors r1_floors F_r1_floorName F_r1_jurorName) fun (u_1085 : Int32) (u_1086 : Int32) (u_1087 : Int32) (u_1088 : Int64) (u_1089 : Int32) (u_1090 : Int32) (u_1091 : Int32) (u_1092 : Int32) =>
    if u_1086 = 0 then (
     lt1 (y8_0 + 1) fun (x_1120 : Int32) =>
     y_X8_readCond_5_8 h0_reader_length h0_reader_mostBytes F_h0_reader_bytes r1_jurors r1_floors F_r1_floorName F_r1_jurorName n8 x_1120 u_1085 u_1086 u_1087 u_1088 u_1089 u_1090 u_1091 u_1092
    ) else (
     lt1 (y8_0 + 1) fun (x_1135 : Int32) =>
     y_X8_readCond_5_8 h0_reader_length h0_reader_mostBytes F_h0_reader_bytes r1_jurors r1_floors F_r1_floorName F_r1_jurorName n8 x_1135 u_1085 u_1086 u_1087 u_1088 u_1089 u_1090 u_1091 u_1092
    )
   )
  )
theorem y_X8_readCond_5_8_s (h0_reader_length : Int32) (h0_reader_mostBytes : Int32) (F_h0_reader_bytes : Nat → Int32) (r1_jurors : Int32) (r1_floors : Int32) (F_r1_floorName : Nat → Int64) (F_r1_jurorName : Nat → Int64) (n8 : Nat) (y8_0 : Int32) (y8_1 : Int32) (y8_2 : Int32) (y8_3 : Int32) (y8_4 : Int64) (y8_5 : Int32) (y8_6 : Int32) (y8_7 : Int32) (y8_8 : Int32) : y_X8_readCond_5_8 h0_reader_length h0_reader_mostBytes F_h0_reader_bytes r1_jurors r1_floors F_r1_floorName F_r1_jurorName (n8 + 1) y8_0 y8_1 y8_2 y8_3 y8_4 y8_5 y8_6 y8_7 y8_8 = (
  if (20 : Int32) ≤ y8_0 then (
   (y8_1, y8_2, y8_3, y8_4, y8_5, y8_6, y8_7, y8_8)
  ) else (
   lt6 (y_X6_takeIf h0_reader_length y8_2 y8_4 h0_reader_mostBytes y8_5 y8_6 y8_7 y8_8 F_h0_reader_bytes 15) fun (r_1060 : Int32) (u_1062 : Int64) (u_1063 : Int32) (u_1064 : Int32) (u_1065 : Int32) (u_1066 : Int32) =>
   if (r_1060 : Int32) = 0 then (
    (y8_1, y8_2, y8_3, u_1062, u_1063, u_1064, u_1065, u_1066)
   ) else (
    lt8 (y_X8_readAll_5 y8_1 h0_reader_length y8_2 y8_3 u_1062 h0_reader_mostBytes u_1063 u_1064 u_1065 u_1066 F_h0_reader_bytes r1_jurors r1_floors F_r1_floorName F_r1_jurorName) fun (u_1085 : Int32) (u_1086 : Int32) (u_1087 : Int32) (u_1088 : Int64) (u_1089 : Int32) (u_1090 : Int32) (u_1091 : Int32) (u_1092 : Int32) =>
    if u_1086 = 0 then (
     lt1 (y8_0 + 1) fun (x_1120 : Int32) =>
     y_X8_readCond_5_8 h0_reader_length h0_reader_mostBytes F_h0_reader_bytes r1_jurors r1_floors F_r1_floorName F_r1_jurorName n8 x_1120 u_1085 u_1086 u_1087 u_1088 u_1089 u_1090 u_1091 u_1092
    ) else (
     lt1 (y8_0 + 1) fun (x_1135 : Int32) =>
     y_X8_readCond_5_8 h0_reader_length h0_reader_mostBytes F_h0_reader_bytes r1_jurors r1_floors F_r1_floorName F_r1_jurorName n8 x_1135 u_1085 u_1086 u_1087 u_1088 u_1089 u_1090 u_1091 u_1092
    )
   )
  )) := rfl
def y_X8_readCond_5 (h0_ones : Int32) (h0_reader_length : Int32) (h0_reader_faultKind : Int32) (h0_reader_faultAt : Int32) (h0_reader_letters : Int64) (h0_reader_mostBytes : Int32) (h0_reader_behind : Int32) (h0_reader_at : Int32) (h0_reader_kind : Int32) (h0_reader_number : Int32) (F_h0_reader_bytes : Nat → Int32) (r1_jurors : Int32) (r1_floors : Int32) (F_r1_floorName : Nat → Int64) (F_r1_jurorName : Nat → Int64)  : Int32 × Int32 × Int32 × Int64 × Int32 × Int32 × Int32 × Int32 :=
  lt8 (y_X8_readAll_5 h0_ones h0_reader_length h0_reader_faultKind h0_reader_faultAt h0_reader_letters h0_reader_mostBytes h0_reader_behind h0_reader_at h0_reader_kind h0_reader_number F_h0_reader_bytes r1_jurors r1_floors F_r1_floorName F_r1_jurorName) fun (u_1141 : Int32) (u_1142 : Int32) (u_1143 : Int32) (u_1144 : Int64) (u_1145 : Int32) (u_1146 : Int32) (u_1147 : Int32) (u_1148 : Int32) =>
  y_X8_readCond_5_8 h0_reader_length h0_reader_mostBytes F_h0_reader_bytes r1_jurors r1_floors F_r1_floorName F_r1_jurorName 21 0 u_1141 u_1142 u_1143 u_1144 u_1145 u_1146 u_1147 u_1148
theorem y_X8_readCond_5_s (h0_ones : Int32) (h0_reader_length : Int32) (h0_reader_faultKind : Int32) (h0_reader_faultAt : Int32) (h0_reader_letters : Int64) (h0_reader_mostBytes : Int32) (h0_reader_behind : Int32) (h0_reader_at : Int32) (h0_reader_kind : Int32) (h0_reader_number : Int32) (F_h0_reader_bytes : Nat → Int32) (r1_jurors : Int32) (r1_floors : Int32) (F_r1_floorName : Nat → Int64) (F_r1_jurorName : Nat → Int64)  : y_X8_readCond_5 h0_ones h0_reader_length h0_reader_faultKind h0_reader_faultAt h0_reader_letters h0_reader_mostBytes h0_reader_behind h0_reader_at h0_reader_kind h0_reader_number F_h0_reader_bytes r1_jurors r1_floors F_r1_floorName F_r1_jurorName = (
  lt8 (y_X8_readAll_5 h0_ones h0_reader_length h0_reader_faultKind h0_reader_faultAt h0_reader_letters h0_reader_mostBytes h0_reader_behind h0_reader_at h0_reader_kind h0_reader_number F_h0_reader_bytes r1_jurors r1_floors F_r1_floorName F_r1_jurorName) fun (u_1141 : Int32) (u_1142 : Int32) (u_1143 : Int32) (u_1144 : Int64) (u_1145 : Int32) (u_1146 : Int32) (u_1147 : Int32) (u_1148 : Int32) =>
  y_X8_readCond_5_8 h0_reader_length h0_reader_mostBytes F_h0_reader_bytes r1_jurors r1_floors F_r1_floorName F_r1_jurorName 21 0 u_1141 u_1142 u_1143 u_1144 u_1145 u_1146 u_1147 u_1148) := rfl
def y_X8_readOne_4 (h0_ones : Int32) (h0_reader_length : Int32) (h0_reader_faultKind : Int32) (h0_reader_faultAt : Int32) (h0_reader_letters : Int64) (h0_reader_mostBytes : Int32) (h0_reader_behind : Int32) (h0_reader_at : Int32) (h0_reader_kind : Int32) (h0_reader_number : Int32) (F_h0_reader_bytes : Nat → Int32) (r1_jurors : Int32) (r1_floors : Int32) (F_r1_floorName : Nat → Int64) (F_r1_jurorName : Nat → Int64)  : Int32 × Int32 × Int32 × Int64 × Int32 × Int32 × Int32 × Int32 :=
  lo (y_X8_plainWord h0_reader_letters h0_reader_kind) (
   lt1 (y_X6_sees h0_reader_letters h0_reader_kind 17) fun (r_318 : Int32) =>
   if (r_318 : Int32) = 0 then (
    lt1 (y_X6_seesSign 40 h0_reader_kind) fun (r_325 : Int32) =>
    if (r_325 : Int32) = 0 then (
     lt4 (y_X6_fail 1 h0_reader_faultKind h0_reader_faultAt h0_reader_letters h0_reader_at h0_reader_kind) fun (u_335 : Int32) (u_336 : Int32) (u_337 : Int64) (u_338 : Int32) =>
     (h0_ones, u_335, u_336, u_337, h0_reader_behind, h0_reader_at, u_338, h0_reader_number)
    ) else (
     if (20 : Int32) ≤ h0_ones then (
      lt4 (y_X6_fail 4 h0_reader_faultKind h0_reader_faultAt h0_reader_letters h0_reader_at h0_reader_kind) fun (u_350 : Int32) (u_351 : Int32) (u_352 : Int64) (u_353 : Int32) =>
      (h0_ones, u_350, u_351, u_352, h0_reader_behind, h0_reader_at, u_353, h0_reader_number)
     ) else (
      lt1 ((h0_ones : Int32) + 1) fun (x_360 : Int32) =>
      lt1 (y_X6_seesSign 40 h0_reader_kind) fun (r_363 : Int32) =>
      if (r_363 : Int32) = 0 then (
       lt5 (y_X6_advance h0_reader_length h0_reader_faultKind h0_reader_letters h0_reader_mostBytes h0_reader_behind h0_reader_at h0_reader_kind h0_reader_number F_h0_reader_bytes) fun (u_373 : Int64) (u_374 : Int32) (u_375 : Int32) (u_376 : Int32) (u_377 : Int32) =>
       lt8 (y_X8_readOne_5 x_360 h0_reader_length h0_reader_faultKind h0_reader_faultAt u_373 h0_reader_mostBytes u_374 u_375 u_376 u_377 F_h0_reader_bytes r1_jurors r1_floors F_r1_floorName F_r1_jurorName) fun (u_383 : Int32) (u_384 : Int32) (u_385 : Int32) (u_386 : Int64) (u_387 : Int32) (u_388 : Int32) (u_389 : Int32) (u_390 : Int32) =>
       if u_384 = 0 then (
        (u_383, u_384, u_385, u_386, u_387, u_388, u_389, u_390)
       ) else (
        (u_383, u_384, u_385, u_386, u_387, u_388, u_389, u_390)
       )
      ) else (
       lt5 (y_X6_advance h0_reader_length h0_reader_faultKind h0_reader_letters h0_reader_mostBytes h0_reader_behind h0_reader_at h0_reader_kind h0_reader_number F_h0_reader_bytes) fun (u_434 : Int64) (u_435 : Int32) (u_436 : Int32) (u_437 : Int32) (u_438 : Int32) =>
       lt8 (y_X8_readCond_5 x_360 h0_reader_length h0_reader_faultKind h0_reader_faultAt u_434 h0_reader_mostBytes u_435 u_436 u_437 u_438 F_h0_reader_bytes r1_jurors r1_floors F_r1_floorName F_r1_jurorName) fun (u_444 : Int32) (u_445 : Int32) (u_446 : Int32) (u_447 : Int64) (u_448 : Int32) (u_449 : Int32) (u_450 : Int32) (u_451 : Int32) =>
       lt7 (y_X6_takeSign 41 h0_reader_length u_445 u_446 u_447 h0_reader_mostBytes u_448 u_449 u_450 u_451 F_h0_reader_bytes) fun (u_469 : Int32) (u_470 : Int32) (u_471 : Int64) (u_472 : Int32) (u_473 : Int32) (u_474 : Int32) (u_475 : Int32) =>
       (u_444, u_469, u_470, u_471, u_472, u_473, u_474, u_475)
      )
     )
    )
   ) else (
    if (20 : Int32) ≤ h0_ones then (
     lt4 (y_X6_fail 4 h0_reader_faultKind h0_reader_faultAt h0_reader_letters h0_reader_at h0_reader_kind) fun (u_487 : Int32) (u_488 : Int32) (u_489 : Int64) (u_490 : Int32) =>
     (h0_ones, u_487, u_488, u_489, h0_reader_behind, h0_reader_at, u_490, h0_reader_number)
    ) else (
     lt1 ((h0_ones : Int32) + 1) fun (x_497 : Int32) =>
     lt1 (y_X6_seesSign 40 h0_reader_kind) fun (r_500 : Int32) =>
     if (r_500 : Int32) = 0 then (
      lt5 (y_X6_advance h0_reader_length h0_reader_faultKind h0_reader_letters h0_reader_mostBytes h0_reader_behind h0_reader_at h0_reader_kind h0_reader_number F_h0_reader_bytes) fun (u_510 : Int64) (u_511 : Int32) (u_512 : Int32) (u_513 : Int32) (u_514 : Int32) =>
      lt8 (y_X8_readOne_5 x_497 h0_reader_length h0_reader_faultKind h0_reader_faultAt u_510 h0_reader_mostBytes u_511 u_512 u_513 u_514 F_h0_reader_bytes r1_jurors r1_floors F_r1_floorName F_r1_jurorName) fun (u_520 : Int32) (u_521 : Int32) (u_522 : Int32) (u_523 : Int64) (u_524 : Int32) (u_525 : Int32) (u_526 : Int32) (u_527 : Int32) =>
      if u_521 = 0 then (
       (u_520, u_521, u_522, u_523, u_524, u_525, u_526, u_527)
      ) else (
       (u_520, u_521, u_522, u_523, u_524, u_525, u_526, u_527)
      )
     ) else (
      (0, 0, 0, 0, 0, 0, 0, 0)
     )
    )
   )
  ) fun (n_569 : Nat) => (
   if (20 : Int32) ≤ h0_ones then (
    lt4 (y_X6_fail 4 h0_reader_faultKind h0_reader_faultAt h0_reader_letters h0_reader_at h0_reader_kind) fun (u_581 : Int32) (u_582 : Int32) (u_583 : Int64) (u_584 : Int32) =>
    (h0_ones, u_581, u_582, u_583, h0_reader_behind, h0_reader_at, u_584, h0_reader_number)
   ) else (
    lt1 ((h0_ones : Int32) + 1) fun (x_591 : Int32) =>
    lt1 (y_X6_seesSign 40 h0_reader_kind) fun (r_594 : Int32) =>
    if (r_594 : Int32) = 0 then (
     lt5 (y_X6_advance h0_reader_length h0_reader_faultKind h0_reader_letters h0_reader_mostBytes h0_reader_behind h0_reader_at h0_reader_kind h0_reader_number F_h0_reader_bytes) fun (u_604 : Int64) (u_605 : Int32) (u_606 : Int32) (u_607 : Int32) (u_608 : Int32) =>
     lt7 (y_X8_readPlain h0_reader_length h0_reader_faultKind h0_reader_faultAt u_604 h0_reader_mostBytes u_605 u_606 u_607 u_608 F_h0_reader_bytes r1_jurors r1_floors F_r1_floorName F_r1_jurorName n_569) fun (u_614 : Int32) (u_615 : Int32) (u_616 : Int64) (u_617 : Int32) (u_618 : Int32) (u_619 : Int32) (u_620 : Int32) =>
     (x_591, u_614, u_615, u_616, u_617, u_618, u_619, u_620)
    ) else (
     (0, 0, 0, 0, 0, 0, 0, 0)
    )
   )
  )
theorem y_X8_readOne_4_s (h0_ones : Int32) (h0_reader_length : Int32) (h0_reader_faultKind : Int32) (h0_reader_faultAt : Int32) (h0_reader_letters : Int64) (h0_reader_mostBytes : Int32) (h0_reader_behind : Int32) (h0_reader_at : Int32) (h0_reader_kind : Int32) (h0_reader_number : Int32) (F_h0_reader_bytes : Nat → Int32) (r1_jurors : Int32) (r1_floors : Int32) (F_r1_floorName : Nat → Int64) (F_r1_jurorName : Nat → Int64)  : y_X8_readOne_4 h0_ones h0_reader_length h0_reader_faultKind h0_reader_faultAt h0_reader_letters h0_reader_mostBytes h0_reader_behind h0_reader_at h0_reader_kind h0_reader_number F_h0_reader_bytes r1_jurors r1_floors F_r1_floorName F_r1_jurorName = (
  lo (y_X8_plainWord h0_reader_letters h0_reader_kind) (
   lt1 (y_X6_sees h0_reader_letters h0_reader_kind 17) fun (r_318 : Int32) =>
   if (r_318 : Int32) = 0 then (
    lt1 (y_X6_seesSign 40 h0_reader_kind) fun (r_325 : Int32) =>
    if (r_325 : Int32) = 0 then (
     lt4 (y_X6_fail 1 h0_reader_faultKind h0_reader_faultAt h0_reader_letters h0_reader_at h0_reader_kind) fun (u_335 : Int32) (u_336 : Int32) (u_337 : Int64) (u_338 : Int32) =>
     (h0_ones, u_335, u_336, u_337, h0_reader_behind, h0_reader_at, u_338, h0_reader_number)
    ) else (
     if (20 : Int32) ≤ h0_ones then (
      lt4 (y_X6_fail 4 h0_reader_faultKind h0_reader_faultAt h0_reader_letters h0_reader_at h0_reader_kind) fun (u_350 : Int32) (u_351 : Int32) (u_352 : Int64) (u_353 : Int32) =>
      (h0_ones, u_350, u_351, u_352, h0_reader_behind, h0_reader_at, u_353, h0_reader_number)
     ) else (
      lt1 ((h0_ones : Int32) + 1) fun (x_360 : Int32) =>
      lt1 (y_X6_seesSign 40 h0_reader_kind) fun (r_363 : Int32) =>
      if (r_363 : Int32) = 0 then (
       lt5 (y_X6_advance h0_reader_length h0_reader_faultKind h0_reader_letters h0_reader_mostBytes h0_reader_behind h0_reader_at h0_reader_kind h0_reader_number F_h0_reader_bytes) fun (u_373 : Int64) (u_374 : Int32) (u_375 : Int32) (u_376 : Int32) (u_377 : Int32) =>
       lt8 (y_X8_readOne_5 x_360 h0_reader_length h0_reader_faultKind h0_reader_faultAt u_373 h0_reader_mostBytes u_374 u_375 u_376 u_377 F_h0_reader_bytes r1_jurors r1_floors F_r1_floorName F_r1_jurorName) fun (u_383 : Int32) (u_384 : Int32) (u_385 : Int32) (u_386 : Int64) (u_387 : Int32) (u_388 : Int32) (u_389 : Int32) (u_390 : Int32) =>
       if u_384 = 0 then (
        (u_383, u_384, u_385, u_386, u_387, u_388, u_389, u_390)
       ) else (
        (u_383, u_384, u_385, u_386, u_387, u_388, u_389, u_390)
       )
      ) else (
       lt5 (y_X6_advance h0_reader_length h0_reader_faultKind h0_reader_letters h0_reader_mostBytes h0_reader_behind h0_reader_at h0_reader_kind h0_reader_number F_h0_reader_bytes) fun (u_434 : Int64) (u_435 : Int32) (u_436 : Int32) (u_437 : Int32) (u_438 : Int32) =>
       lt8 (y_X8_readCond_5 x_360 h0_reader_length h0_reader_faultKind h0_reader_faultAt u_434 h0_reader_mostBytes u_435 u_436 u_437 u_438 F_h0_reader_bytes r1_jurors r1_floors F_r1_floorName F_r1_jurorName) fun (u_444 : Int32) (u_445 : Int32) (u_446 : Int32) (u_447 : Int64) (u_448 : Int32) (u_449 : Int32) (u_450 : Int32) (u_451 : Int32) =>
       lt7 (y_X6_takeSign 41 h0_reader_length u_445 u_446 u_447 h0_reader_mostBytes u_448 u_449 u_450 u_451 F_h0_reader_bytes) fun (u_469 : Int32) (u_470 : Int32) (u_471 : Int64) (u_472 : Int32) (u_473 : Int32) (u_474 : Int32) (u_475 : Int32) =>
       (u_444, u_469, u_470, u_471, u_472, u_473, u_474, u_475)
      )
     )
    )
   ) else (
    if (20 : Int32) ≤ h0_ones then (
     lt4 (y_X6_fail 4 h0_reader_faultKind h0_reader_faultAt h0_reader_letters h0_reader_at h0_reader_kind) fun (u_487 : Int32) (u_488 : Int32) (u_489 : Int64) (u_490 : Int32) =>
     (h0_ones, u_487, u_488, u_489, h0_reader_behind, h0_reader_at, u_490, h0_reader_number)
    ) else (
     lt1 ((h0_ones : Int32) + 1) fun (x_497 : Int32) =>
     lt1 (y_X6_seesSign 40 h0_reader_kind) fun (r_500 : Int32) =>
     if (r_500 : Int32) = 0 then (
      lt5 (y_X6_advance h0_reader_length h0_reader_faultKind h0_reader_letters h0_reader_mostBytes h0_reader_behind h0_reader_at h0_reader_kind h0_reader_number F_h0_reader_bytes) fun (u_510 : Int64) (u_511 : Int32) (u_512 : Int32) (u_513 : Int32) (u_514 : Int32) =>
      lt8 (y_X8_readOne_5 x_497 h0_reader_length h0_reader_faultKind h0_reader_faultAt u_510 h0_reader_mostBytes u_511 u_512 u_513 u_514 F_h0_reader_bytes r1_jurors r1_floors F_r1_floorName F_r1_jurorName) fun (u_520 : Int32) (u_521 : Int32) (u_522 : Int32) (u_523 : Int64) (u_524 : Int32) (u_525 : Int32) (u_526 : Int32) (u_527 : Int32) =>
      if u_521 = 0 then (
       (u_520, u_521, u_522, u_523, u_524, u_525, u_526, u_527)
      ) else (
       (u_520, u_521, u_522, u_523, u_524, u_525, u_526, u_527)
      )
     ) else (
      (0, 0, 0, 0, 0, 0, 0, 0)
     )
    )
   )
  ) fun (n_569 : Nat) => (
   if (20 : Int32) ≤ h0_ones then (
    lt4 (y_X6_fail 4 h0_reader_faultKind h0_reader_faultAt h0_reader_letters h0_reader_at h0_reader_kind) fun (u_581 : Int32) (u_582 : Int32) (u_583 : Int64) (u_584 : Int32) =>
    (h0_ones, u_581, u_582, u_583, h0_reader_behind, h0_reader_at, u_584, h0_reader_number)
   ) else (
    lt1 ((h0_ones : Int32) + 1) fun (x_591 : Int32) =>
    lt1 (y_X6_seesSign 40 h0_reader_kind) fun (r_594 : Int32) =>
    if (r_594 : Int32) = 0 then (
     lt5 (y_X6_advance h0_reader_length h0_reader_faultKind h0_reader_letters h0_reader_mostBytes h0_reader_behind h0_reader_at h0_reader_kind h0_reader_number F_h0_reader_bytes) fun (u_604 : Int64) (u_605 : Int32) (u_606 : Int32) (u_607 : Int32) (u_608 : Int32) =>
     lt7 (y_X8_readPlain h0_reader_length h0_reader_faultKind h0_reader_faultAt u_604 h0_reader_mostBytes u_605 u_606 u_607 u_608 F_h0_reader_bytes r1_jurors r1_floors F_r1_floorName F_r1_jurorName n_569) fun (u_614 : Int32) (u_615 : Int32) (u_616 : Int64) (u_617 : Int32) (u_618 : Int32) (u_619 : Int32) (u_620 : Int32) =>
     (x_591, u_614, u_615, u_616, u_617, u_618, u_619, u_620)
    ) else (
     (0, 0, 0, 0, 0, 0, 0, 0)
    )
   )
  )) := rfl
def y_X8_readAll_4_8 (h0_reader_length : Int32) (h0_reader_mostBytes : Int32) (F_h0_reader_bytes : Nat → Int32) (r1_jurors : Int32) (r1_floors : Int32) (F_r1_floorName : Nat → Int64) (F_r1_jurorName : Nat → Int64) : Nat → Int32 → Int32 → Int32 → Int32 → Int64 → Int32 → Int32 → Int32 → Int32 → (Int32 × Int32 × Int32 × Int64 × Int32 × Int32 × Int32 × Int32)
 | 0, _, _, _, _, _, _, _, _, _ => (0, 0, 0, 0, 0, 0, 0, 0)
 | n8 + 1, y8_0, y8_1, y8_2, y8_3, y8_4, y8_5, y8_6, y8_7, y8_8 =>
  if (20 : Int32) ≤ y8_0 then (
   (y8_1, y8_2, y8_3, y8_4, y8_5, y8_6, y8_7, y8_8)
  ) else (
   lt6 (y_X6_takeIf h0_reader_length y8_2 y8_4 h0_reader_mostBytes y8_5 y8_6 y8_7 y8_8 F_h0_reader_bytes 16) fun (r_1060 : Int32) (u_1062 : Int64) (u_1063 : Int32) (u_1064 : Int32) (u_1065 : Int32) (u_1066 : Int32) =>
   if (r_1060 : Int32) = 0 then (
    (y8_1, y8_2, y8_3, u_1062, u_1063, u_1064, u_1065, u_1066)
   ) else (
    lt8 (y_X8_readOne_4 y8_1 h0_reader_length y8_2 y8_3 u_1062 h0_reader_mostBytes u_1063 u_1064 u_1065 u_1066 F_h0_reader_bytes r1_jurors r1_floors F_r1_floorName F_r1_jurorName) fun (u_1085 : Int32) (u_1086 : Int32) (u_1087 : Int32) (u_1088 : Int64) (u_1089 : Int32) (u_1090 : Int32) (u_1091 : Int32) (u_1092 : Int32) =>
    if u_1086 = 0 then (
     lt1 (y8_0 + 1) fun (x_1120 : Int32) =>
     y_X8_readAll_4_8 h0_reader_length h0_reader_mostBytes F_h0_reader_bytes r1_jurors r1_floors F_r1_floorName F_r1_jurorName n8 x_1120 u_1085 u_1086 u_1087 u_1088 u_1089 u_1090 u_1091 u_1092
    ) else (
     lt1 (y8_0 + 1) fun (x_1135 : Int32) =>
     y_X8_readAll_4_8 h0_reader_length h0_reader_mostBytes F_h0_reader_bytes r1_jurors r1_floors F_r1_floorName F_r1_jurorName n8 x_1135 u_1085 u_1086 u_1087 u_1088 u_1089 u_1090 u_1091 u_1092
    )
   )
  )
theorem y_X8_readAll_4_8_s (h0_reader_length : Int32) (h0_reader_mostBytes : Int32) (F_h0_reader_bytes : Nat → Int32) (r1_jurors : Int32) (r1_floors : Int32) (F_r1_floorName : Nat → Int64) (F_r1_jurorName : Nat → Int64) (n8 : Nat) (y8_0 : Int32) (y8_1 : Int32) (y8_2 : Int32) (y8_3 : Int32) (y8_4 : Int64) (y8_5 : Int32) (y8_6 : Int32) (y8_7 : Int32) (y8_8 : Int32) : y_X8_readAll_4_8 h0_reader_length h0_reader_mostBytes F_h0_reader_bytes r1_jurors r1_floors F_r1_floorName F_r1_jurorName (n8 + 1) y8_0 y8_1 y8_2 y8_3 y8_4 y8_5 y8_6 y8_7 y8_8 = (
  if (20 : Int32) ≤ y8_0 then (
   (y8_1, y8_2, y8_3, y8_4, y8_5, y8_6, y8_7, y8_8)
  ) else (
   lt6 (y_X6_takeIf h0_reader_length y8_2 y8_4 h0_reader_mostBytes y8_5 y8_6 y8_7 y8_8 F_h0_reader_bytes 16) fun (r_1060 : Int32) (u_1062 : Int64) (u_1063 : Int32) (u_1064 : Int32) (u_1065 : Int32) (u_1066 : Int32) =>
   if (r_1060 : Int32) = 0 then (
    (y8_1, y8_2, y8_3, u_1062, u_1063, u_1064, u_1065, u_1066)
   ) else (
    lt8 (y_X8_readOne_4 y8_1 h0_reader_length y8_2 y8_3 u_1062 h0_reader_mostBytes u_1063 u_1064 u_1065 u_1066 F_h0_reader_bytes r1_jurors r1_floors F_r1_floorName F_r1_jurorName) fun (u_1085 : Int32) (u_1086 : Int32) (u_1087 : Int32) (u_1088 : Int64) (u_1089 : Int32) (u_1090 : Int32) (u_1091 : Int32) (u_1092 : Int32) =>
    if u_1086 = 0 then (
     lt1 (y8_0 + 1) fun (x_1120 : Int32) =>
     y_X8_readAll_4_8 h0_reader_length h0_reader_mostBytes F_h0_reader_bytes r1_jurors r1_floors F_r1_floorName F_r1_jurorName n8 x_1120 u_1085 u_1086 u_1087 u_1088 u_1089 u_1090 u_1091 u_1092
    ) else (
     lt1 (y8_0 + 1) fun (x_1135 : Int32) =>
     y_X8_readAll_4_8 h0_reader_length h0_reader_mostBytes F_h0_reader_bytes r1_jurors r1_floors F_r1_floorName F_r1_jurorName n8 x_1135 u_1085 u_1086 u_1087 u_1088 u_1089 u_1090 u_1091 u_1092
    )
   )
  )) := rfl
def y_X8_readAll_4 (h0_ones : Int32) (h0_reader_length : Int32) (h0_reader_faultKind : Int32) (h0_reader_faultAt : Int32) (h0_reader_letters : Int64) (h0_reader_mostBytes : Int32) (h0_reader_behind : Int32) (h0_reader_at : Int32) (h0_reader_kind : Int32) (h0_reader_number : Int32) (F_h0_reader_bytes : Nat → Int32) (r1_jurors : Int32) (r1_floors : Int32) (F_r1_floorName : Nat → Int64) (F_r1_jurorName : Nat → Int64)  : Int32 × Int32 × Int32 × Int64 × Int32 × Int32 × Int32 × Int32 :=
  lt8 (y_X8_readOne_4 h0_ones h0_reader_length h0_reader_faultKind h0_reader_faultAt h0_reader_letters h0_reader_mostBytes h0_reader_behind h0_reader_at h0_reader_kind h0_reader_number F_h0_reader_bytes r1_jurors r1_floors F_r1_floorName F_r1_jurorName) fun (u_1141 : Int32) (u_1142 : Int32) (u_1143 : Int32) (u_1144 : Int64) (u_1145 : Int32) (u_1146 : Int32) (u_1147 : Int32) (u_1148 : Int32) =>
  y_X8_readAll_4_8 h0_reader_length h0_reader_mostBytes F_h0_reader_bytes r1_jurors r1_floors F_r1_floorName F_r1_jurorName 21 0 u_1141 u_1142 u_1143 u_1144 u_1145 u_1146 u_1147 u_1148
theorem y_X8_readAll_4_s (h0_ones : Int32) (h0_reader_length : Int32) (h0_reader_faultKind : Int32) (h0_reader_faultAt : Int32) (h0_reader_letters : Int64) (h0_reader_mostBytes : Int32) (h0_reader_behind : Int32) (h0_reader_at : Int32) (h0_reader_kind : Int32) (h0_reader_number : Int32) (F_h0_reader_bytes : Nat → Int32) (r1_jurors : Int32) (r1_floors : Int32) (F_r1_floorName : Nat → Int64) (F_r1_jurorName : Nat → Int64)  : y_X8_readAll_4 h0_ones h0_reader_length h0_reader_faultKind h0_reader_faultAt h0_reader_letters h0_reader_mostBytes h0_reader_behind h0_reader_at h0_reader_kind h0_reader_number F_h0_reader_bytes r1_jurors r1_floors F_r1_floorName F_r1_jurorName = (
  lt8 (y_X8_readOne_4 h0_ones h0_reader_length h0_reader_faultKind h0_reader_faultAt h0_reader_letters h0_reader_mostBytes h0_reader_behind h0_reader_at h0_reader_kind h0_reader_number F_h0_reader_bytes r1_jurors r1_floors F_r1_floorName F_r1_jurorName) fun (u_1141 : Int32) (u_1142 : Int32) (u_1143 : Int32) (u_1144 : Int64) (u_1145 : Int32) (u_1146 : Int32) (u_1147 : Int32) (u_1148 : Int32) =>
  y_X8_readAll_4_8 h0_reader_length h0_reader_mostBytes F_h0_reader_bytes r1_jurors r1_floors F_r1_floorName F_r1_jurorName 21 0 u_1141 u_1142 u_1143 u_1144 u_1145 u_1146 u_1147 u_1148) := rfl
def y_X8_readCond_4_8 (h0_reader_length : Int32) (h0_reader_mostBytes : Int32) (F_h0_reader_bytes : Nat → Int32) (r1_jurors : Int32) (r1_floors : Int32) (F_r1_floorName : Nat → Int64) (F_r1_jurorName : Nat → Int64) : Nat → Int32 → Int32 → Int32 → Int32 → Int64 → Int32 → Int32 → Int32 → Int32 → (Int32 × Int32 × Int32 × Int64 × Int32 × Int32 × Int32 × Int32)
 | 0, _, _, _, _, _, _, _, _, _ => (0, 0, 0, 0, 0, 0, 0, 0)
 | n8 + 1, y8_0, y8_1, y8_2, y8_3, y8_4, y8_5, y8_6, y8_7, y8_8 =>
  if (20 : Int32) ≤ y8_0 then (
   (y8_1, y8_2, y8_3, y8_4, y8_5, y8_6, y8_7, y8_8)
  ) else (
   lt6 (y_X6_takeIf h0_reader_length y8_2 y8_4 h0_reader_mostBytes y8_5 y8_6 y8_7 y8_8 F_h0_reader_bytes 15) fun (r_1060 : Int32) (u_1062 : Int64) (u_1063 : Int32) (u_1064 : Int32) (u_1065 : Int32) (u_1066 : Int32) =>
   if (r_1060 : Int32) = 0 then (
    (y8_1, y8_2, y8_3, u_1062, u_1063, u_1064, u_1065, u_1066)
   ) else (
    lt8 (y_X8_readAll_4 y8_1 h0_reader_length y8_2 y8_3 u_1062 h0_reader_mostBytes u_1063 u_1064 u_1065 u_1066 F_h0_reader_bytes r1_jurors r1_floors F_r1_floorName F_r1_jurorName) fun (u_1085 : Int32) (u_1086 : Int32) (u_1087 : Int32) (u_1088 : Int64) (u_1089 : Int32) (u_1090 : Int32) (u_1091 : Int32) (u_1092 : Int32) =>
    if u_1086 = 0 then (
     lt1 (y8_0 + 1) fun (x_1120 : Int32) =>
     y_X8_readCond_4_8 h0_reader_length h0_reader_mostBytes F_h0_reader_bytes r1_jurors r1_floors F_r1_floorName F_r1_jurorName n8 x_1120 u_1085 u_1086 u_1087 u_1088 u_1089 u_1090 u_1091 u_1092
    ) else (
     lt1 (y8_0 + 1) fun (x_1135 : Int32) =>
     y_X8_readCond_4_8 h0_reader_length h0_reader_mostBytes F_h0_reader_bytes r1_jurors r1_floors F_r1_floorName F_r1_jurorName n8 x_1135 u_1085 u_1086 u_1087 u_1088 u_1089 u_1090 u_1091 u_1092
    )
   )
  )
theorem y_X8_readCond_4_8_s (h0_reader_length : Int32) (h0_reader_mostBytes : Int32) (F_h0_reader_bytes : Nat → Int32) (r1_jurors : Int32) (r1_floors : Int32) (F_r1_floorName : Nat → Int64) (F_r1_jurorName : Nat → Int64) (n8 : Nat) (y8_0 : Int32) (y8_1 : Int32) (y8_2 : Int32) (y8_3 : Int32) (y8_4 : Int64) (y8_5 : Int32) (y8_6 : Int32) (y8_7 : Int32) (y8_8 : Int32) : y_X8_readCond_4_8 h0_reader_length h0_reader_mostBytes F_h0_reader_bytes r1_jurors r1_floors F_r1_floorName F_r1_jurorName (n8 + 1) y8_0 y8_1 y8_2 y8_3 y8_4 y8_5 y8_6 y8_7 y8_8 = (
  if (20 : Int32) ≤ y8_0 then (
   (y8_1, y8_2, y8_3, y8_4, y8_5, y8_6, y8_7, y8_8)
  ) else (
   lt6 (y_X6_takeIf h0_reader_length y8_2 y8_4 h0_reader_mostBytes y8_5 y8_6 y8_7 y8_8 F_h0_reader_bytes 15) fun (r_1060 : Int32) (u_1062 : Int64) (u_1063 : Int32) (u_1064 : Int32) (u_1065 : Int32) (u_1066 : Int32) =>
   if (r_1060 : Int32) = 0 then (
    (y8_1, y8_2, y8_3, u_1062, u_1063, u_1064, u_1065, u_1066)
   ) else (
    lt8 (y_X8_readAll_4 y8_1 h0_reader_length y8_2 y8_3 u_1062 h0_reader_mostBytes u_1063 u_1064 u_1065 u_1066 F_h0_reader_bytes r1_jurors r1_floors F_r1_floorName F_r1_jurorName) fun (u_1085 : Int32) (u_1086 : Int32) (u_1087 : Int32) (u_1088 : Int64) (u_1089 : Int32) (u_1090 : Int32) (u_1091 : Int32) (u_1092 : Int32) =>
    if u_1086 = 0 then (
     lt1 (y8_0 + 1) fun (x_1120 : Int32) =>
     y_X8_readCond_4_8 h0_reader_length h0_reader_mostBytes F_h0_reader_bytes r1_jurors r1_floors F_r1_floorName F_r1_jurorName n8 x_1120 u_1085 u_1086 u_1087 u_1088 u_1089 u_1090 u_1091 u_1092
    ) else (
     lt1 (y8_0 + 1) fun (x_1135 : Int32) =>
     y_X8_readCond_4_8 h0_reader_length h0_reader_mostBytes F_h0_reader_bytes r1_jurors r1_floors F_r1_floorName F_r1_jurorName n8 x_1135 u_1085 u_1086 u_1087 u_1088 u_1089 u_1090 u_1091 u_1092
    )
   )
  )) := rfl
def y_X8_readCond_4 (h0_ones : Int32) (h0_reader_length : Int32) (h0_reader_faultKind : Int32) (h0_reader_faultAt : Int32) (h0_reader_letters : Int64) (h0_reader_mostBytes : Int32) (h0_reader_behind : Int32) (h0_reader_at : Int32) (h0_reader_kind : Int32) (h0_reader_number : Int32) (F_h0_reader_bytes : Nat → Int32) (r1_jurors : Int32) (r1_floors : Int32) (F_r1_floorName : Nat → Int64) (F_r1_jurorName : Nat → Int64)  : Int32 × Int32 × Int32 × Int64 × Int32 × Int32 × Int32 × Int32 :=
  lt8 (y_X8_readAll_4 h0_ones h0_reader_length h0_reader_faultKind h0_reader_faultAt h0_reader_letters h0_reader_mostBytes h0_reader_behind h0_reader_at h0_reader_kind h0_reader_number F_h0_reader_bytes r1_jurors r1_floors F_r1_floorName F_r1_jurorName) fun (u_1141 : Int32) (u_1142 : Int32) (u_1143 : Int32) (u_1144 : Int64) (u_1145 : Int32) (u_1146 : Int32) (u_1147 : Int32) (u_1148 : Int32) =>
  y_X8_readCond_4_8 h0_reader_length h0_reader_mostBytes F_h0_reader_bytes r1_jurors r1_floors F_r1_floorName F_r1_jurorName 21 0 u_1141 u_1142 u_1143 u_1144 u_1145 u_1146 u_1147 u_1148
theorem y_X8_readCond_4_s (h0_ones : Int32) (h0_reader_length : Int32) (h0_reader_faultKind : Int32) (h0_reader_faultAt : Int32) (h0_reader_letters : Int64) (h0_reader_mostBytes : Int32) (h0_reader_behind : Int32) (h0_reader_at : Int32) (h0_reader_kind : Int32) (h0_reader_number : Int32) (F_h0_reader_bytes : Nat → Int32) (r1_jurors : Int32) (r1_floors : Int32) (F_r1_floorName : Nat → Int64) (F_r1_jurorName : Nat → Int64)  : y_X8_readCond_4 h0_ones h0_reader_length h0_reader_faultKind h0_reader_faultAt h0_reader_letters h0_reader_mostBytes h0_reader_behind h0_reader_at h0_reader_kind h0_reader_number F_h0_reader_bytes r1_jurors r1_floors F_r1_floorName F_r1_jurorName = (
  lt8 (y_X8_readAll_4 h0_ones h0_reader_length h0_reader_faultKind h0_reader_faultAt h0_reader_letters h0_reader_mostBytes h0_reader_behind h0_reader_at h0_reader_kind h0_reader_number F_h0_reader_bytes r1_jurors r1_floors F_r1_floorName F_r1_jurorName) fun (u_1141 : Int32) (u_1142 : Int32) (u_1143 : Int32) (u_1144 : Int64) (u_1145 : Int32) (u_1146 : Int32) (u_1147 : Int32) (u_1148 : Int32) =>
  y_X8_readCond_4_8 h0_reader_length h0_reader_mostBytes F_h0_reader_bytes r1_jurors r1_floors F_r1_floorName F_r1_jurorName 21 0 u_1141 u_1142 u_1143 u_1144 u_1145 u_1146 u_1147 u_1148) := rfl
def y_X8_readOne_3 (h0_ones : Int32) (h0_reader_length : Int32) (h0_reader_faultKind : Int32) (h0_reader_faultAt : Int32) (h0_reader_letters : Int64) (h0_reader_mostBytes : Int32) (h0_reader_behind : Int32) (h0_reader_at : Int32) (h0_reader_kind : Int32) (h0_reader_number : Int32) (F_h0_reader_bytes : Nat → Int32) (r1_jurors : Int32) (r1_floors : Int32) (F_r1_floorName : Nat → Int64) (F_r1_jurorName : Nat → Int64)  : Int32 × Int32 × Int32 × Int64 × Int32 × Int32 × Int32 × Int32 :=
  lo (y_X8_plainWord h0_reader_letters h0_reader_kind) (
   lt1 (y_X6_sees h0_reader_letters h0_reader_kind 17) fun (r_318 : Int32) =>
   if (r_318 : Int32) = 0 then (
    lt1 (y_X6_seesSign 40 h0_reader_kind) fun (r_325 : Int32) =>
    if (r_325 : Int32) = 0 then (
     lt4 (y_X6_fail 1 h0_reader_faultKind h0_reader_faultAt h0_reader_letters h0_reader_at h0_reader_kind) fun (u_335 : Int32) (u_336 : Int32) (u_337 : Int64) (u_338 : Int32) =>
     (h0_ones, u_335, u_336, u_337, h0_reader_behind, h0_reader_at, u_338, h0_reader_number)
    ) else (
     if (20 : Int32) ≤ h0_ones then (
      lt4 (y_X6_fail 4 h0_reader_faultKind h0_reader_faultAt h0_reader_letters h0_reader_at h0_reader_kind) fun (u_350 : Int32) (u_351 : Int32) (u_352 : Int64) (u_353 : Int32) =>
      (h0_ones, u_350, u_351, u_352, h0_reader_behind, h0_reader_at, u_353, h0_reader_number)
     ) else (
      lt1 ((h0_ones : Int32) + 1) fun (x_360 : Int32) =>
      lt1 (y_X6_seesSign 40 h0_reader_kind) fun (r_363 : Int32) =>
      if (r_363 : Int32) = 0 then (
       lt5 (y_X6_advance h0_reader_length h0_reader_faultKind h0_reader_letters h0_reader_mostBytes h0_reader_behind h0_reader_at h0_reader_kind h0_reader_number F_h0_reader_bytes) fun (u_373 : Int64) (u_374 : Int32) (u_375 : Int32) (u_376 : Int32) (u_377 : Int32) =>
       lt8 (y_X8_readOne_4 x_360 h0_reader_length h0_reader_faultKind h0_reader_faultAt u_373 h0_reader_mostBytes u_374 u_375 u_376 u_377 F_h0_reader_bytes r1_jurors r1_floors F_r1_floorName F_r1_jurorName) fun (u_383 : Int32) (u_384 : Int32) (u_385 : Int32) (u_386 : Int64) (u_387 : Int32) (u_388 : Int32) (u_389 : Int32) (u_390 : Int32) =>
       if u_384 = 0 then (
        (u_383, u_384, u_385, u_386, u_387, u_388, u_389, u_390)
       ) else (
        (u_383, u_384, u_385, u_386, u_387, u_388, u_389, u_390)
       )
      ) else (
       lt5 (y_X6_advance h0_reader_length h0_reader_faultKind h0_reader_letters h0_reader_mostBytes h0_reader_behind h0_reader_at h0_reader_kind h0_reader_number F_h0_reader_bytes) fun (u_434 : Int64) (u_435 : Int32) (u_436 : Int32) (u_437 : Int32) (u_438 : Int32) =>
       lt8 (y_X8_readCond_4 x_360 h0_reader_length h0_reader_faultKind h0_reader_faultAt u_434 h0_reader_mostBytes u_435 u_436 u_437 u_438 F_h0_reader_bytes r1_jurors r1_floors F_r1_floorName F_r1_jurorName) fun (u_444 : Int32) (u_445 : Int32) (u_446 : Int32) (u_447 : Int64) (u_448 : Int32) (u_449 : Int32) (u_450 : Int32) (u_451 : Int32) =>
       lt7 (y_X6_takeSign 41 h0_reader_length u_445 u_446 u_447 h0_reader_mostBytes u_448 u_449 u_450 u_451 F_h0_reader_bytes) fun (u_469 : Int32) (u_470 : Int32) (u_471 : Int64) (u_472 : Int32) (u_473 : Int32) (u_474 : Int32) (u_475 : Int32) =>
       (u_444, u_469, u_470, u_471, u_472, u_473, u_474, u_475)
      )
     )
    )
   ) else (
    if (20 : Int32) ≤ h0_ones then (
     lt4 (y_X6_fail 4 h0_reader_faultKind h0_reader_faultAt h0_reader_letters h0_reader_at h0_reader_kind) fun (u_487 : Int32) (u_488 : Int32) (u_489 : Int64) (u_490 : Int32) =>
     (h0_ones, u_487, u_488, u_489, h0_reader_behind, h0_reader_at, u_490, h0_reader_number)
    ) else (
     lt1 ((h0_ones : Int32) + 1) fun (x_497 : Int32) =>
     lt1 (y_X6_seesSign 40 h0_reader_kind) fun (r_500 : Int32) =>
     if (r_500 : Int32) = 0 then (
      lt5 (y_X6_advance h0_reader_length h0_reader_faultKind h0_reader_letters h0_reader_mostBytes h0_reader_behind h0_reader_at h0_reader_kind h0_reader_number F_h0_reader_bytes) fun (u_510 : Int64) (u_511 : Int32) (u_512 : Int32) (u_513 : Int32) (u_514 : Int32) =>
      lt8 (y_X8_readOne_4 x_497 h0_reader_length h0_reader_faultKind h0_reader_faultAt u_510 h0_reader_mostBytes u_511 u_512 u_513 u_514 F_h0_reader_bytes r1_jurors r1_floors F_r1_floorName F_r1_jurorName) fun (u_520 : Int32) (u_521 : Int32) (u_522 : Int32) (u_523 : Int64) (u_524 : Int32) (u_525 : Int32) (u_526 : Int32) (u_527 : Int32) =>
      if u_521 = 0 then (
       (u_520, u_521, u_522, u_523, u_524, u_525, u_526, u_527)
      ) else (
       (u_520, u_521, u_522, u_523, u_524, u_525, u_526, u_527)
      )
     ) else (
      (0, 0, 0, 0, 0, 0, 0, 0)
     )
    )
   )
  ) fun (n_569 : Nat) => (
   if (20 : Int32) ≤ h0_ones then (
    lt4 (y_X6_fail 4 h0_reader_faultKind h0_reader_faultAt h0_reader_letters h0_reader_at h0_reader_kind) fun (u_581 : Int32) (u_582 : Int32) (u_583 : Int64) (u_584 : Int32) =>
    (h0_ones, u_581, u_582, u_583, h0_reader_behind, h0_reader_at, u_584, h0_reader_number)
   ) else (
    lt1 ((h0_ones : Int32) + 1) fun (x_591 : Int32) =>
    lt1 (y_X6_seesSign 40 h0_reader_kind) fun (r_594 : Int32) =>
    if (r_594 : Int32) = 0 then (
     lt5 (y_X6_advance h0_reader_length h0_reader_faultKind h0_reader_letters h0_reader_mostBytes h0_reader_behind h0_reader_at h0_reader_kind h0_reader_number F_h0_reader_bytes) fun (u_604 : Int64) (u_605 : Int32) (u_606 : Int32) (u_607 : Int32) (u_608 : Int32) =>
     lt7 (y_X8_readPlain h0_reader_length h0_reader_faultKind h0_reader_faultAt u_604 h0_reader_mostBytes u_605 u_606 u_607 u_608 F_h0_reader_bytes r1_jurors r1_floors F_r1_floorName F_r1_jurorName n_569) fun (u_614 : Int32) (u_615 : Int32) (u_616 : Int64) (u_617 : Int32) (u_618 : Int32) (u_619 : Int32) (u_620 : Int32) =>
     (x_591, u_614, u_615, u_616, u_617, u_618, u_619, u_620)
    ) else (
     (0, 0, 0, 0, 0, 0, 0, 0)
    )
   )
  )
theorem y_X8_readOne_3_s (h0_ones : Int32) (h0_reader_length : Int32) (h0_reader_faultKind : Int32) (h0_reader_faultAt : Int32) (h0_reader_letters : Int64) (h0_reader_mostBytes : Int32) (h0_reader_behind : Int32) (h0_reader_at : Int32) (h0_reader_kind : Int32) (h0_reader_number : Int32) (F_h0_reader_bytes : Nat → Int32) (r1_jurors : Int32) (r1_floors : Int32) (F_r1_floorName : Nat → Int64) (F_r1_jurorName : Nat → Int64)  : y_X8_readOne_3 h0_ones h0_reader_length h0_reader_faultKind h0_reader_faultAt h0_reader_letters h0_reader_mostBytes h0_reader_behind h0_reader_at h0_reader_kind h0_reader_number F_h0_reader_bytes r1_jurors r1_floors F_r1_floorName F_r1_jurorName = (
  lo (y_X8_plainWord h0_reader_letters h0_reader_kind) (
   lt1 (y_X6_sees h0_reader_letters h0_reader_kind 17) fun (r_318 : Int32) =>
   if (r_318 : Int32) = 0 then (
    lt1 (y_X6_seesSign 40 h0_reader_kind) fun (r_325 : Int32) =>
    if (r_325 : Int32) = 0 then (
     lt4 (y_X6_fail 1 h0_reader_faultKind h0_reader_faultAt h0_reader_letters h0_reader_at h0_reader_kind) fun (u_335 : Int32) (u_336 : Int32) (u_337 : Int64) (u_338 : Int32) =>
     (h0_ones, u_335, u_336, u_337, h0_reader_behind, h0_reader_at, u_338, h0_reader_number)
    ) else (
     if (20 : Int32) ≤ h0_ones then (
      lt4 (y_X6_fail 4 h0_reader_faultKind h0_reader_faultAt h0_reader_letters h0_reader_at h0_reader_kind) fun (u_350 : Int32) (u_351 : Int32) (u_352 : Int64) (u_353 : Int32) =>
      (h0_ones, u_350, u_351, u_352, h0_reader_behind, h0_reader_at, u_353, h0_reader_number)
     ) else (
      lt1 ((h0_ones : Int32) + 1) fun (x_360 : Int32) =>
      lt1 (y_X6_seesSign 40 h0_reader_kind) fun (r_363 : Int32) =>
      if (r_363 : Int32) = 0 then (
       lt5 (y_X6_advance h0_reader_length h0_reader_faultKind h0_reader_letters h0_reader_mostBytes h0_reader_behind h0_reader_at h0_reader_kind h0_reader_number F_h0_reader_bytes) fun (u_373 : Int64) (u_374 : Int32) (u_375 : Int32) (u_376 : Int32) (u_377 : Int32) =>
       lt8 (y_X8_readOne_4 x_360 h0_reader_length h0_reader_faultKind h0_reader_faultAt u_373 h0_reader_mostBytes u_374 u_375 u_376 u_377 F_h0_reader_bytes r1_jurors r1_floors F_r1_floorName F_r1_jurorName) fun (u_383 : Int32) (u_384 : Int32) (u_385 : Int32) (u_386 : Int64) (u_387 : Int32) (u_388 : Int32) (u_389 : Int32) (u_390 : Int32) =>
       if u_384 = 0 then (
        (u_383, u_384, u_385, u_386, u_387, u_388, u_389, u_390)
       ) else (
        (u_383, u_384, u_385, u_386, u_387, u_388, u_389, u_390)
       )
      ) else (
       lt5 (y_X6_advance h0_reader_length h0_reader_faultKind h0_reader_letters h0_reader_mostBytes h0_reader_behind h0_reader_at h0_reader_kind h0_reader_number F_h0_reader_bytes) fun (u_434 : Int64) (u_435 : Int32) (u_436 : Int32) (u_437 : Int32) (u_438 : Int32) =>
       lt8 (y_X8_readCond_4 x_360 h0_reader_length h0_reader_faultKind h0_reader_faultAt u_434 h0_reader_mostBytes u_435 u_436 u_437 u_438 F_h0_reader_bytes r1_jurors r1_floors F_r1_floorName F_r1_jurorName) fun (u_444 : Int32) (u_445 : Int32) (u_446 : Int32) (u_447 : Int64) (u_448 : Int32) (u_449 : Int32) (u_450 : Int32) (u_451 : Int32) =>
       lt7 (y_X6_takeSign 41 h0_reader_length u_445 u_446 u_447 h0_reader_mostBytes u_448 u_449 u_450 u_451 F_h0_reader_bytes) fun (u_469 : Int32) (u_470 : Int32) (u_471 : Int64) (u_472 : Int32) (u_473 : Int32) (u_474 : Int32) (u_475 : Int32) =>
       (u_444, u_469, u_470, u_471, u_472, u_473, u_474, u_475)
      )
     )
    )
   ) else (
    if (20 : Int32) ≤ h0_ones then (
     lt4 (y_X6_fail 4 h0_reader_faultKind h0_reader_faultAt h0_reader_letters h0_reader_at h0_reader_kind) fun (u_487 : Int32) (u_488 : Int32) (u_489 : Int64) (u_490 : Int32) =>
     (h0_ones, u_487, u_488, u_489, h0_reader_behind, h0_reader_at, u_490, h0_reader_number)
    ) else (
     lt1 ((h0_ones : Int32) + 1) fun (x_497 : Int32) =>
     lt1 (y_X6_seesSign 40 h0_reader_kind) fun (r_500 : Int32) =>
     if (r_500 : Int32) = 0 then (
      lt5 (y_X6_advance h0_reader_length h0_reader_faultKind h0_reader_letters h0_reader_mostBytes h0_reader_behind h0_reader_at h0_reader_kind h0_reader_number F_h0_reader_bytes) fun (u_510 : Int64) (u_511 : Int32) (u_512 : Int32) (u_513 : Int32) (u_514 : Int32) =>
      lt8 (y_X8_readOne_4 x_497 h0_reader_length h0_reader_faultKind h0_reader_faultAt u_510 h0_reader_mostBytes u_511 u_512 u_513 u_514 F_h0_reader_bytes r1_jurors r1_floors F_r1_floorName F_r1_jurorName) fun (u_520 : Int32) (u_521 : Int32) (u_522 : Int32) (u_523 : Int64) (u_524 : Int32) (u_525 : Int32) (u_526 : Int32) (u_527 : Int32) =>
      if u_521 = 0 then (
       (u_520, u_521, u_522, u_523, u_524, u_525, u_526, u_527)
      ) else (
       (u_520, u_521, u_522, u_523, u_524, u_525, u_526, u_527)
      )
     ) else (
      (0, 0, 0, 0, 0, 0, 0, 0)
     )
    )
   )
  ) fun (n_569 : Nat) => (
   if (20 : Int32) ≤ h0_ones then (
    lt4 (y_X6_fail 4 h0_reader_faultKind h0_reader_faultAt h0_reader_letters h0_reader_at h0_reader_kind) fun (u_581 : Int32) (u_582 : Int32) (u_583 : Int64) (u_584 : Int32) =>
    (h0_ones, u_581, u_582, u_583, h0_reader_behind, h0_reader_at, u_584, h0_reader_number)
   ) else (
    lt1 ((h0_ones : Int32) + 1) fun (x_591 : Int32) =>
    lt1 (y_X6_seesSign 40 h0_reader_kind) fun (r_594 : Int32) =>
    if (r_594 : Int32) = 0 then (
     lt5 (y_X6_advance h0_reader_length h0_reader_faultKind h0_reader_letters h0_reader_mostBytes h0_reader_behind h0_reader_at h0_reader_kind h0_reader_number F_h0_reader_bytes) fun (u_604 : Int64) (u_605 : Int32) (u_606 : Int32) (u_607 : Int32) (u_608 : Int32) =>
     lt7 (y_X8_readPlain h0_reader_length h0_reader_faultKind h0_reader_faultAt u_604 h0_reader_mostBytes u_605 u_606 u_607 u_608 F_h0_reader_bytes r1_jurors r1_floors F_r1_floorName F_r1_jurorName n_569) fun (u_614 : Int32) (u_615 : Int32) (u_616 : Int64) (u_617 : Int32) (u_618 : Int32) (u_619 : Int32) (u_620 : Int32) =>
     (x_591, u_614, u_615, u_616, u_617, u_618, u_619, u_620)
    ) else (
     (0, 0, 0, 0, 0, 0, 0, 0)
    )
   )
  )) := rfl
def y_X8_readAll_3_8 (h0_reader_length : Int32) (h0_reader_mostBytes : Int32) (F_h0_reader_bytes : Nat → Int32) (r1_jurors : Int32) (r1_floors : Int32) (F_r1_floorName : Nat → Int64) (F_r1_jurorName : Nat → Int64) : Nat → Int32 → Int32 → Int32 → Int32 → Int64 → Int32 → Int32 → Int32 → Int32 → (Int32 × Int32 × Int32 × Int64 × Int32 × Int32 × Int32 × Int32)
 | 0, _, _, _, _, _, _, _, _, _ => (0, 0, 0, 0, 0, 0, 0, 0)
 | n8 + 1, y8_0, y8_1, y8_2, y8_3, y8_4, y8_5, y8_6, y8_7, y8_8 =>
  if (20 : Int32) ≤ y8_0 then (
   (y8_1, y8_2, y8_3, y8_4, y8_5, y8_6, y8_7, y8_8)
  ) else (
   lt6 (y_X6_takeIf h0_reader_length y8_2 y8_4 h0_reader_mostBytes y8_5 y8_6 y8_7 y8_8 F_h0_reader_bytes 16) fun (r_1060 : Int32) (u_1062 : Int64) (u_1063 : Int32) (u_1064 : Int32) (u_1065 : Int32) (u_1066 : Int32) =>
   if (r_1060 : Int32) = 0 then (
    (y8_1, y8_2, y8_3, u_1062, u_1063, u_1064, u_1065, u_1066)
   ) else (
    lt8 (y_X8_readOne_3 y8_1 h0_reader_length y8_2 y8_3 u_1062 h0_reader_mostBytes u_1063 u_1064 u_1065 u_1066 F_h0_reader_bytes r1_jurors r1_floors F_r1_floorName F_r1_jurorName) fun (u_1085 : Int32) (u_1086 : Int32) (u_1087 : Int32) (u_1088 : Int64) (u_1089 : Int32) (u_1090 : Int32) (u_1091 : Int32) (u_1092 : Int32) =>
    if u_1086 = 0 then (
     lt1 (y8_0 + 1) fun (x_1120 : Int32) =>
     y_X8_readAll_3_8 h0_reader_length h0_reader_mostBytes F_h0_reader_bytes r1_jurors r1_floors F_r1_floorName F_r1_jurorName n8 x_1120 u_1085 u_1086 u_1087 u_1088 u_1089 u_1090 u_1091 u_1092
    ) else (
     lt1 (y8_0 + 1) fun (x_1135 : Int32) =>
     y_X8_readAll_3_8 h0_reader_length h0_reader_mostBytes F_h0_reader_bytes r1_jurors r1_floors F_r1_floorName F_r1_jurorName n8 x_1135 u_1085 u_1086 u_1087 u_1088 u_1089 u_1090 u_1091 u_1092
    )
   )
  )
theorem y_X8_readAll_3_8_s (h0_reader_length : Int32) (h0_reader_mostBytes : Int32) (F_h0_reader_bytes : Nat → Int32) (r1_jurors : Int32) (r1_floors : Int32) (F_r1_floorName : Nat → Int64) (F_r1_jurorName : Nat → Int64) (n8 : Nat) (y8_0 : Int32) (y8_1 : Int32) (y8_2 : Int32) (y8_3 : Int32) (y8_4 : Int64) (y8_5 : Int32) (y8_6 : Int32) (y8_7 : Int32) (y8_8 : Int32) : y_X8_readAll_3_8 h0_reader_length h0_reader_mostBytes F_h0_reader_bytes r1_jurors r1_floors F_r1_floorName F_r1_jurorName (n8 + 1) y8_0 y8_1 y8_2 y8_3 y8_4 y8_5 y8_6 y8_7 y8_8 = (
  if (20 : Int32) ≤ y8_0 then (
   (y8_1, y8_2, y8_3, y8_4, y8_5, y8_6, y8_7, y8_8)
  ) else (
   lt6 (y_X6_takeIf h0_reader_length y8_2 y8_4 h0_reader_mostBytes y8_5 y8_6 y8_7 y8_8 F_h0_reader_bytes 16) fun (r_1060 : Int32) (u_1062 : Int64) (u_1063 : Int32) (u_1064 : Int32) (u_1065 : Int32) (u_1066 : Int32) =>
   if (r_1060 : Int32) = 0 then (
    (y8_1, y8_2, y8_3, u_1062, u_1063, u_1064, u_1065, u_1066)
   ) else (
    lt8 (y_X8_readOne_3 y8_1 h0_reader_length y8_2 y8_3 u_1062 h0_reader_mostBytes u_1063 u_1064 u_1065 u_1066 F_h0_reader_bytes r1_jurors r1_floors F_r1_floorName F_r1_jurorName) fun (u_1085 : Int32) (u_1086 : Int32) (u_1087 : Int32) (u_1088 : Int64) (u_1089 : Int32) (u_1090 : Int32) (u_1091 : Int32) (u_1092 : Int32) =>
    if u_1086 = 0 then (
     lt1 (y8_0 + 1) fun (x_1120 : Int32) =>
     y_X8_readAll_3_8 h0_reader_length h0_reader_mostBytes F_h0_reader_bytes r1_jurors r1_floors F_r1_floorName F_r1_jurorName n8 x_1120 u_1085 u_1086 u_1087 u_1088 u_1089 u_1090 u_1091 u_1092
    ) else (
     lt1 (y8_0 + 1) fun (x_1135 : Int32) =>
     y_X8_readAll_3_8 h0_reader_length h0_reader_mostBytes F_h0_reader_bytes r1_jurors r1_floors F_r1_floorName F_r1_jurorName n8 x_1135 u_1085 u_1086 u_1087 u_1088 u_1089 u_1090 u_1091 u_1092
    )
   )
  )) := rfl
def y_X8_readAll_3 (h0_ones : Int32) (h0_reader_length : Int32) (h0_reader_faultKind : Int32) (h0_reader_faultAt : Int32) (h0_reader_letters : Int64) (h0_reader_mostBytes : Int32) (h0_reader_behind : Int32) (h0_reader_at : Int32) (h0_reader_kind : Int32) (h0_reader_number : Int32) (F_h0_reader_bytes : Nat → Int32) (r1_jurors : Int32) (r1_floors : Int32) (F_r1_floorName : Nat → Int64) (F_r1_jurorName : Nat → Int64)  : Int32 × Int32 × Int32 × Int64 × Int32 × Int32 × Int32 × Int32 :=
  lt8 (y_X8_readOne_3 h0_ones h0_reader_length h0_reader_faultKind h0_reader_faultAt h0_reader_letters h0_reader_mostBytes h0_reader_behind h0_reader_at h0_reader_kind h0_reader_number F_h0_reader_bytes r1_jurors r1_floors F_r1_floorName F_r1_jurorName) fun (u_1141 : Int32) (u_1142 : Int32) (u_1143 : Int32) (u_1144 : Int64) (u_1145 : Int32) (u_1146 : Int32) (u_1147 : Int32) (u_1148 : Int32) =>
  y_X8_readAll_3_8 h0_reader_length h0_reader_mostBytes F_h0_reader_bytes r1_jurors r1_floors F_r1_floorName F_r1_jurorName 21 0 u_1141 u_1142 u_1143 u_1144 u_1145 u_1146 u_1147 u_1148
theorem y_X8_readAll_3_s (h0_ones : Int32) (h0_reader_length : Int32) (h0_reader_faultKind : Int32) (h0_reader_faultAt : Int32) (h0_reader_letters : Int64) (h0_reader_mostBytes : Int32) (h0_reader_behind : Int32) (h0_reader_at : Int32) (h0_reader_kind : Int32) (h0_reader_number : Int32) (F_h0_reader_bytes : Nat → Int32) (r1_jurors : Int32) (r1_floors : Int32) (F_r1_floorName : Nat → Int64) (F_r1_jurorName : Nat → Int64)  : y_X8_readAll_3 h0_ones h0_reader_length h0_reader_faultKind h0_reader_faultAt h0_reader_letters h0_reader_mostBytes h0_reader_behind h0_reader_at h0_reader_kind h0_reader_number F_h0_reader_bytes r1_jurors r1_floors F_r1_floorName F_r1_jurorName = (
  lt8 (y_X8_readOne_3 h0_ones h0_reader_length h0_reader_faultKind h0_reader_faultAt h0_reader_letters h0_reader_mostBytes h0_reader_behind h0_reader_at h0_reader_kind h0_reader_number F_h0_reader_bytes r1_jurors r1_floors F_r1_floorName F_r1_jurorName) fun (u_1141 : Int32) (u_1142 : Int32) (u_1143 : Int32) (u_1144 : Int64) (u_1145 : Int32) (u_1146 : Int32) (u_1147 : Int32) (u_1148 : Int32) =>
  y_X8_readAll_3_8 h0_reader_length h0_reader_mostBytes F_h0_reader_bytes r1_jurors r1_floors F_r1_floorName F_r1_jurorName 21 0 u_1141 u_1142 u_1143 u_1144 u_1145 u_1146 u_1147 u_1148) := rfl
def y_X8_readCond_3_8 (h0_reader_length : Int32) (h0_reader_mostBytes : Int32) (F_h0_reader_bytes : Nat → Int32) (r1_jurors : Int32) (r1_floors : Int32) (F_r1_floorName : Nat → Int64) (F_r1_jurorName : Nat → Int64) : Nat → Int32 → Int32 → Int32 → Int32 → Int64 → Int32 → Int32 → Int32 → Int32 → (Int32 × Int32 × Int32 × Int64 × Int32 × Int32 × Int32 × Int32)
 | 0, _, _, _, _, _, _, _, _, _ => (0, 0, 0, 0, 0, 0, 0, 0)
 | n8 + 1, y8_0, y8_1, y8_2, y8_3, y8_4, y8_5, y8_6, y8_7, y8_8 =>
  if (20 : Int32) ≤ y8_0 then (
   (y8_1, y8_2, y8_3, y8_4, y8_5, y8_6, y8_7, y8_8)
  ) else (
   lt6 (y_X6_takeIf h0_reader_length y8_2 y8_4 h0_reader_mostBytes y8_5 y8_6 y8_7 y8_8 F_h0_reader_bytes 15) fun (r_1060 : Int32) (u_1062 : Int64) (u_1063 : Int32) (u_1064 : Int32) (u_1065 : Int32) (u_1066 : Int32) =>
   if (r_1060 : Int32) = 0 then (
    (y8_1, y8_2, y8_3, u_1062, u_1063, u_1064, u_1065, u_1066)
   ) else (
    lt8 (y_X8_readAll_3 y8_1 h0_reader_length y8_2 y8_3 u_1062 h0_reader_mostBytes u_1063 u_1064 u_1065 u_1066 F_h0_reader_bytes r1_jurors r1_floors F_r1_floorName F_r1_jurorName) fun (u_1085 : Int32) (u_1086 : Int32) (u_1087 : Int32) (u_1088 : Int64) (u_1089 : Int32) (u_1090 : Int32) (u_1091 : Int32) (u_1092 : Int32) =>
    if u_1086 = 0 then (
     lt1 (y8_0 + 1) fun (x_1120 : Int32) =>
     y_X8_readCond_3_8 h0_reader_length h0_reader_mostBytes F_h0_reader_bytes r1_jurors r1_floors F_r1_floorName F_r1_jurorName n8 x_1120 u_1085 u_1086 u_1087 u_1088 u_1089 u_1090 u_1091 u_1092
    ) else (
     lt1 (y8_0 + 1) fun (x_1135 : Int32) =>
     y_X8_readCond_3_8 h0_reader_length h0_reader_mostBytes F_h0_reader_bytes r1_jurors r1_floors F_r1_floorName F_r1_jurorName n8 x_1135 u_1085 u_1086 u_1087 u_1088 u_1089 u_1090 u_1091 u_1092
    )
   )
  )
theorem y_X8_readCond_3_8_s (h0_reader_length : Int32) (h0_reader_mostBytes : Int32) (F_h0_reader_bytes : Nat → Int32) (r1_jurors : Int32) (r1_floors : Int32) (F_r1_floorName : Nat → Int64) (F_r1_jurorName : Nat → Int64) (n8 : Nat) (y8_0 : Int32) (y8_1 : Int32) (y8_2 : Int32) (y8_3 : Int32) (y8_4 : Int64) (y8_5 : Int32) (y8_6 : Int32) (y8_7 : Int32) (y8_8 : Int32) : y_X8_readCond_3_8 h0_reader_length h0_reader_mostBytes F_h0_reader_bytes r1_jurors r1_floors F_r1_floorName F_r1_jurorName (n8 + 1) y8_0 y8_1 y8_2 y8_3 y8_4 y8_5 y8_6 y8_7 y8_8 = (
  if (20 : Int32) ≤ y8_0 then (
   (y8_1, y8_2, y8_3, y8_4, y8_5, y8_6, y8_7, y8_8)
  ) else (
   lt6 (y_X6_takeIf h0_reader_length y8_2 y8_4 h0_reader_mostBytes y8_5 y8_6 y8_7 y8_8 F_h0_reader_bytes 15) fun (r_1060 : Int32) (u_1062 : Int64) (u_1063 : Int32) (u_1064 : Int32) (u_1065 : Int32) (u_1066 : Int32) =>
   if (r_1060 : Int32) = 0 then (
    (y8_1, y8_2, y8_3, u_1062, u_1063, u_1064, u_1065, u_1066)
   ) else (
    lt8 (y_X8_readAll_3 y8_1 h0_reader_length y8_2 y8_3 u_1062 h0_reader_mostBytes u_1063 u_1064 u_1065 u_1066 F_h0_reader_bytes r1_jurors r1_floors F_r1_floorName F_r1_jurorName) fun (u_1085 : Int32) (u_1086 : Int32) (u_1087 : Int32) (u_1088 : Int64) (u_1089 : Int32) (u_1090 : Int32) (u_1091 : Int32) (u_1092 : Int32) =>
    if u_1086 = 0 then (
     lt1 (y8_0 + 1) fun (x_1120 : Int32) =>
     y_X8_readCond_3_8 h0_reader_length h0_reader_mostBytes F_h0_reader_bytes r1_jurors r1_floors F_r1_floorName F_r1_jurorName n8 x_1120 u_1085 u_1086 u_1087 u_1088 u_1089 u_1090 u_1091 u_1092
    ) else (
     lt1 (y8_0 + 1) fun (x_1135 : Int32) =>
     y_X8_readCond_3_8 h0_reader_length h0_reader_mostBytes F_h0_reader_bytes r1_jurors r1_floors F_r1_floorName F_r1_jurorName n8 x_1135 u_1085 u_1086 u_1087 u_1088 u_1089 u_1090 u_1091 u_1092
    )
   )
  )) := rfl
def y_X8_readCond_3 (h0_ones : Int32) (h0_reader_length : Int32) (h0_reader_faultKind : Int32) (h0_reader_faultAt : Int32) (h0_reader_letters : Int64) (h0_reader_mostBytes : Int32) (h0_reader_behind : Int32) (h0_reader_at : Int32) (h0_reader_kind : Int32) (h0_reader_number : Int32) (F_h0_reader_bytes : Nat → Int32) (r1_jurors : Int32) (r1_floors : Int32) (F_r1_floorName : Nat → Int64) (F_r1_jurorName : Nat → Int64)  : Int32 × Int32 × Int32 × Int64 × Int32 × Int32 × Int32 × Int32 :=
  lt8 (y_X8_readAll_3 h0_ones h0_reader_length h0_reader_faultKind h0_reader_faultAt h0_reader_letters h0_reader_mostBytes h0_reader_behind h0_reader_at h0_reader_kind h0_reader_number F_h0_reader_bytes r1_jurors r1_floors F_r1_floorName F_r1_jurorName) fun (u_1141 : Int32) (u_1142 : Int32) (u_1143 : Int32) (u_1144 : Int64) (u_1145 : Int32) (u_1146 : Int32) (u_1147 : Int32) (u_1148 : Int32) =>
  y_X8_readCond_3_8 h0_reader_length h0_reader_mostBytes F_h0_reader_bytes r1_jurors r1_floors F_r1_floorName F_r1_jurorName 21 0 u_1141 u_1142 u_1143 u_1144 u_1145 u_1146 u_1147 u_1148
theorem y_X8_readCond_3_s (h0_ones : Int32) (h0_reader_length : Int32) (h0_reader_faultKind : Int32) (h0_reader_faultAt : Int32) (h0_reader_letters : Int64) (h0_reader_mostBytes : Int32) (h0_reader_behind : Int32) (h0_reader_at : Int32) (h0_reader_kind : Int32) (h0_reader_number : Int32) (F_h0_reader_bytes : Nat → Int32) (r1_jurors : Int32) (r1_floors : Int32) (F_r1_floorName : Nat → Int64) (F_r1_jurorName : Nat → Int64)  : y_X8_readCond_3 h0_ones h0_reader_length h0_reader_faultKind h0_reader_faultAt h0_reader_letters h0_reader_mostBytes h0_reader_behind h0_reader_at h0_reader_kind h0_reader_number F_h0_reader_bytes r1_jurors r1_floors F_r1_floorName F_r1_jurorName = (
  lt8 (y_X8_readAll_3 h0_ones h0_reader_length h0_reader_faultKind h0_reader_faultAt h0_reader_letters h0_reader_mostBytes h0_reader_behind h0_reader_at h0_reader_kind h0_reader_number F_h0_reader_bytes r1_jurors r1_floors F_r1_floorName F_r1_jurorName) fun (u_1141 : Int32) (u_1142 : Int32) (u_1143 : Int32) (u_1144 : Int64) (u_1145 : Int32) (u_1146 : Int32) (u_1147 : Int32) (u_1148 : Int32) =>
  y_X8_readCond_3_8 h0_reader_length h0_reader_mostBytes F_h0_reader_bytes r1_jurors r1_floors F_r1_floorName F_r1_jurorName 21 0 u_1141 u_1142 u_1143 u_1144 u_1145 u_1146 u_1147 u_1148) := rfl
def y_X8_readOne_2 (h0_ones : Int32) (h0_reader_length : Int32) (h0_reader_faultKind : Int32) (h0_reader_faultAt : Int32) (h0_reader_letters : Int64) (h0_reader_mostBytes : Int32) (h0_reader_behind : Int32) (h0_reader_at : Int32) (h0_reader_kind : Int32) (h0_reader_number : Int32) (F_h0_reader_bytes : Nat → Int32) (r1_jurors : Int32) (r1_floors : Int32) (F_r1_floorName : Nat → Int64) (F_r1_jurorName : Nat → Int64)  : Int32 × Int32 × Int32 × Int64 × Int32 × Int32 × Int32 × Int32 :=
  lo (y_X8_plainWord h0_reader_letters h0_reader_kind) (
   lt1 (y_X6_sees h0_reader_letters h0_reader_kind 17) fun (r_318 : Int32) =>
   if (r_318 : Int32) = 0 then (
    lt1 (y_X6_seesSign 40 h0_reader_kind) fun (r_325 : Int32) =>
    if (r_325 : Int32) = 0 then (
     lt4 (y_X6_fail 1 h0_reader_faultKind h0_reader_faultAt h0_reader_letters h0_reader_at h0_reader_kind) fun (u_335 : Int32) (u_336 : Int32) (u_337 : Int64) (u_338 : Int32) =>
     (h0_ones, u_335, u_336, u_337, h0_reader_behind, h0_reader_at, u_338, h0_reader_number)
    ) else (
     if (20 : Int32) ≤ h0_ones then (
      lt4 (y_X6_fail 4 h0_reader_faultKind h0_reader_faultAt h0_reader_letters h0_reader_at h0_reader_kind) fun (u_350 : Int32) (u_351 : Int32) (u_352 : Int64) (u_353 : Int32) =>
      (h0_ones, u_350, u_351, u_352, h0_reader_behind, h0_reader_at, u_353, h0_reader_number)
     ) else (
      lt1 ((h0_ones : Int32) + 1) fun (x_360 : Int32) =>
      lt1 (y_X6_seesSign 40 h0_reader_kind) fun (r_363 : Int32) =>
      if (r_363 : Int32) = 0 then (
       lt5 (y_X6_advance h0_reader_length h0_reader_faultKind h0_reader_letters h0_reader_mostBytes h0_reader_behind h0_reader_at h0_reader_kind h0_reader_number F_h0_reader_bytes) fun (u_373 : Int64) (u_374 : Int32) (u_375 : Int32) (u_376 : Int32) (u_377 : Int32) =>
       lt8 (y_X8_readOne_3 x_360 h0_reader_length h0_reader_faultKind h0_reader_faultAt u_373 h0_reader_mostBytes u_374 u_375 u_376 u_377 F_h0_reader_bytes r1_jurors r1_floors F_r1_floorName F_r1_jurorName) fun (u_383 : Int32) (u_384 : Int32) (u_385 : Int32) (u_386 : Int64) (u_387 : Int32) (u_388 : Int32) (u_389 : Int32) (u_390 : Int32) =>
       if u_384 = 0 then (
        (u_383, u_384, u_385, u_386, u_387, u_388, u_389, u_390)
       ) else (
        (u_383, u_384, u_385, u_386, u_387, u_388, u_389, u_390)
       )
      ) else (
       lt5 (y_X6_advance h0_reader_length h0_reader_faultKind h0_reader_letters h0_reader_mostBytes h0_reader_behind h0_reader_at h0_reader_kind h0_reader_number F_h0_reader_bytes) fun (u_434 : Int64) (u_435 : Int32) (u_436 : Int32) (u_437 : Int32) (u_438 : Int32) =>
       lt8 (y_X8_readCond_3 x_360 h0_reader_length h0_reader_faultKind h0_reader_faultAt u_434 h0_reader_mostBytes u_435 u_436 u_437 u_438 F_h0_reader_bytes r1_jurors r1_floors F_r1_floorName F_r1_jurorName) fun (u_444 : Int32) (u_445 : Int32) (u_446 : Int32) (u_447 : Int64) (u_448 : Int32) (u_449 : Int32) (u_450 : Int32) (u_451 : Int32) =>
       lt7 (y_X6_takeSign 41 h0_reader_length u_445 u_446 u_447 h0_reader_mostBytes u_448 u_449 u_450 u_451 F_h0_reader_bytes) fun (u_469 : Int32) (u_470 : Int32) (u_471 : Int64) (u_472 : Int32) (u_473 : Int32) (u_474 : Int32) (u_475 : Int32) =>
       (u_444, u_469, u_470, u_471, u_472, u_473, u_474, u_475)
      )
     )
    )
   ) else (
    if (20 : Int32) ≤ h0_ones then (
     lt4 (y_X6_fail 4 h0_reader_faultKind h0_reader_faultAt h0_reader_letters h0_reader_at h0_reader_kind) fun (u_487 : Int32) (u_488 : Int32) (u_489 : Int64) (u_490 : Int32) =>
     (h0_ones, u_487, u_488, u_489, h0_reader_behind, h0_reader_at, u_490, h0_reader_number)
    ) else (
     lt1 ((h0_ones : Int32) + 1) fun (x_497 : Int32) =>
     lt1 (y_X6_seesSign 40 h0_reader_kind) fun (r_500 : Int32) =>
     if (r_500 : Int32) = 0 then (
      lt5 (y_X6_advance h0_reader_length h0_reader_faultKind h0_reader_letters h0_reader_mostBytes h0_reader_behind h0_reader_at h0_reader_kind h0_reader_number F_h0_reader_bytes) fun (u_510 : Int64) (u_511 : Int32) (u_512 : Int32) (u_513 : Int32) (u_514 : Int32) =>
      lt8 (y_X8_readOne_3 x_497 h0_reader_length h0_reader_faultKind h0_reader_faultAt u_510 h0_reader_mostBytes u_511 u_512 u_513 u_514 F_h0_reader_bytes r1_jurors r1_floors F_r1_floorName F_r1_jurorName) fun (u_520 : Int32) (u_521 : Int32) (u_522 : Int32) (u_523 : Int64) (u_524 : Int32) (u_525 : Int32) (u_526 : Int32) (u_527 : Int32) =>
      if u_521 = 0 then (
       (u_520, u_521, u_522, u_523, u_524, u_525, u_526, u_527)
      ) else (
       (u_520, u_521, u_522, u_523, u_524, u_525, u_526, u_527)
      )
     ) else (
      (0, 0, 0, 0, 0, 0, 0, 0)
     )
    )
   )
  ) fun (n_569 : Nat) => (
   if (20 : Int32) ≤ h0_ones then (
    lt4 (y_X6_fail 4 h0_reader_faultKind h0_reader_faultAt h0_reader_letters h0_reader_at h0_reader_kind) fun (u_581 : Int32) (u_582 : Int32) (u_583 : Int64) (u_584 : Int32) =>
    (h0_ones, u_581, u_582, u_583, h0_reader_behind, h0_reader_at, u_584, h0_reader_number)
   ) else (
    lt1 ((h0_ones : Int32) + 1) fun (x_591 : Int32) =>
    lt1 (y_X6_seesSign 40 h0_reader_kind) fun (r_594 : Int32) =>
    if (r_594 : Int32) = 0 then (
     lt5 (y_X6_advance h0_reader_length h0_reader_faultKind h0_reader_letters h0_reader_mostBytes h0_reader_behind h0_reader_at h0_reader_kind h0_reader_number F_h0_reader_bytes) fun (u_604 : Int64) (u_605 : Int32) (u_606 : Int32) (u_607 : Int32) (u_608 : Int32) =>
     lt7 (y_X8_readPlain h0_reader_length h0_reader_faultKind h0_reader_faultAt u_604 h0_reader_mostBytes u_605 u_606 u_607 u_608 F_h0_reader_bytes r1_jurors r1_floors F_r1_floorName F_r1_jurorName n_569) fun (u_614 : Int32) (u_615 : Int32) (u_616 : Int64) (u_617 : Int32) (u_618 : Int32) (u_619 : Int32) (u_620 : Int32) =>
     (x_591, u_614, u_615, u_616, u_617, u_618, u_619, u_620)
    ) else (
     (0, 0, 0, 0, 0, 0, 0, 0)
    )
   )
  )
theorem y_X8_readOne_2_s (h0_ones : Int32) (h0_reader_length : Int32) (h0_reader_faultKind : Int32) (h0_reader_faultAt : Int32) (h0_reader_letters : Int64) (h0_reader_mostBytes : Int32) (h0_reader_behind : Int32) (h0_reader_at : Int32) (h0_reader_kind : Int32) (h0_reader_number : Int32) (F_h0_reader_bytes : Nat → Int32) (r1_jurors : Int32) (r1_floors : Int32) (F_r1_floorName : Nat → Int64) (F_r1_jurorName : Nat → Int64)  : y_X8_readOne_2 h0_ones h0_reader_length h0_reader_faultKind h0_reader_faultAt h0_reader_letters h0_reader_mostBytes h0_reader_behind h0_reader_at h0_reader_kind h0_reader_number F_h0_reader_bytes r1_jurors r1_floors F_r1_floorName F_r1_jurorName = (
  lo (y_X8_plainWord h0_reader_letters h0_reader_kind) (
   lt1 (y_X6_sees h0_reader_letters h0_reader_kind 17) fun (r_318 : Int32) =>
   if (r_318 : Int32) = 0 then (
    lt1 (y_X6_seesSign 40 h0_reader_kind) fun (r_325 : Int32) =>
    if (r_325 : Int32) = 0 then (
     lt4 (y_X6_fail 1 h0_reader_faultKind h0_reader_faultAt h0_reader_letters h0_reader_at h0_reader_kind) fun (u_335 : Int32) (u_336 : Int32) (u_337 : Int64) (u_338 : Int32) =>
     (h0_ones, u_335, u_336, u_337, h0_reader_behind, h0_reader_at, u_338, h0_reader_number)
    ) else (
     if (20 : Int32) ≤ h0_ones then (
      lt4 (y_X6_fail 4 h0_reader_faultKind h0_reader_faultAt h0_reader_letters h0_reader_at h0_reader_kind) fun (u_350 : Int32) (u_351 : Int32) (u_352 : Int64) (u_353 : Int32) =>
      (h0_ones, u_350, u_351, u_352, h0_reader_behind, h0_reader_at, u_353, h0_reader_number)
     ) else (
      lt1 ((h0_ones : Int32) + 1) fun (x_360 : Int32) =>
      lt1 (y_X6_seesSign 40 h0_reader_kind) fun (r_363 : Int32) =>
      if (r_363 : Int32) = 0 then (
       lt5 (y_X6_advance h0_reader_length h0_reader_faultKind h0_reader_letters h0_reader_mostBytes h0_reader_behind h0_reader_at h0_reader_kind h0_reader_number F_h0_reader_bytes) fun (u_373 : Int64) (u_374 : Int32) (u_375 : Int32) (u_376 : Int32) (u_377 : Int32) =>
       lt8 (y_X8_readOne_3 x_360 h0_reader_length h0_reader_faultKind h0_reader_faultAt u_373 h0_reader_mostBytes u_374 u_375 u_376 u_377 F_h0_reader_bytes r1_jurors r1_floors F_r1_floorName F_r1_jurorName) fun (u_383 : Int32) (u_384 : Int32) (u_385 : Int32) (u_386 : Int64) (u_387 : Int32) (u_388 : Int32) (u_389 : Int32) (u_390 : Int32) =>
       if u_384 = 0 then (
        (u_383, u_384, u_385, u_386, u_387, u_388, u_389, u_390)
       ) else (
        (u_383, u_384, u_385, u_386, u_387, u_388, u_389, u_390)
       )
      ) else (
       lt5 (y_X6_advance h0_reader_length h0_reader_faultKind h0_reader_letters h0_reader_mostBytes h0_reader_behind h0_reader_at h0_reader_kind h0_reader_number F_h0_reader_bytes) fun (u_434 : Int64) (u_435 : Int32) (u_436 : Int32) (u_437 : Int32) (u_438 : Int32) =>
       lt8 (y_X8_readCond_3 x_360 h0_reader_length h0_reader_faultKind h0_reader_faultAt u_434 h0_reader_mostBytes u_435 u_436 u_437 u_438 F_h0_reader_bytes r1_jurors r1_floors F_r1_floorName F_r1_jurorName) fun (u_444 : Int32) (u_445 : Int32) (u_446 : Int32) (u_447 : Int64) (u_448 : Int32) (u_449 : Int32) (u_450 : Int32) (u_451 : Int32) =>
       lt7 (y_X6_takeSign 41 h0_reader_length u_445 u_446 u_447 h0_reader_mostBytes u_448 u_449 u_450 u_451 F_h0_reader_bytes) fun (u_469 : Int32) (u_470 : Int32) (u_471 : Int64) (u_472 : Int32) (u_473 : Int32) (u_474 : Int32) (u_475 : Int32) =>
       (u_444, u_469, u_470, u_471, u_472, u_473, u_474, u_475)
      )
     )
    )
   ) else (
    if (20 : Int32) ≤ h0_ones then (
     lt4 (y_X6_fail 4 h0_reader_faultKind h0_reader_faultAt h0_reader_letters h0_reader_at h0_reader_kind) fun (u_487 : Int32) (u_488 : Int32) (u_489 : Int64) (u_490 : Int32) =>
     (h0_ones, u_487, u_488, u_489, h0_reader_behind, h0_reader_at, u_490, h0_reader_number)
    ) else (
     lt1 ((h0_ones : Int32) + 1) fun (x_497 : Int32) =>
     lt1 (y_X6_seesSign 40 h0_reader_kind) fun (r_500 : Int32) =>
     if (r_500 : Int32) = 0 then (
      lt5 (y_X6_advance h0_reader_length h0_reader_faultKind h0_reader_letters h0_reader_mostBytes h0_reader_behind h0_reader_at h0_reader_kind h0_reader_number F_h0_reader_bytes) fun (u_510 : Int64) (u_511 : Int32) (u_512 : Int32) (u_513 : Int32) (u_514 : Int32) =>
      lt8 (y_X8_readOne_3 x_497 h0_reader_length h0_reader_faultKind h0_reader_faultAt u_510 h0_reader_mostBytes u_511 u_512 u_513 u_514 F_h0_reader_bytes r1_jurors r1_floors F_r1_floorName F_r1_jurorName) fun (u_520 : Int32) (u_521 : Int32) (u_522 : Int32) (u_523 : Int64) (u_524 : Int32) (u_525 : Int32) (u_526 : Int32) (u_527 : Int32) =>
      if u_521 = 0 then (
       (u_520, u_521, u_522, u_523, u_524, u_525, u_526, u_527)
      ) else (
       (u_520, u_521, u_522, u_523, u_524, u_525, u_526, u_527)
      )
     ) else (
      (0, 0, 0, 0, 0, 0, 0, 0)
     )
    )
   )
  ) fun (n_569 : Nat) => (
   if (20 : Int32) ≤ h0_ones then (
    lt4 (y_X6_fail 4 h0_reader_faultKind h0_reader_faultAt h0_reader_letters h0_reader_at h0_reader_kind) fun (u_581 : Int32) (u_582 : Int32) (u_583 : Int64) (u_584 : Int32) =>
    (h0_ones, u_581, u_582, u_583, h0_reader_behind, h0_reader_at, u_584, h0_reader_number)
   ) else (
    lt1 ((h0_ones : Int32) + 1) fun (x_591 : Int32) =>
    lt1 (y_X6_seesSign 40 h0_reader_kind) fun (r_594 : Int32) =>
    if (r_594 : Int32) = 0 then (
     lt5 (y_X6_advance h0_reader_length h0_reader_faultKind h0_reader_letters h0_reader_mostBytes h0_reader_behind h0_reader_at h0_reader_kind h0_reader_number F_h0_reader_bytes) fun (u_604 : Int64) (u_605 : Int32) (u_606 : Int32) (u_607 : Int32) (u_608 : Int32) =>
     lt7 (y_X8_readPlain h0_reader_length h0_reader_faultKind h0_reader_faultAt u_604 h0_reader_mostBytes u_605 u_606 u_607 u_608 F_h0_reader_bytes r1_jurors r1_floors F_r1_floorName F_r1_jurorName n_569) fun (u_614 : Int32) (u_615 : Int32) (u_616 : Int64) (u_617 : Int32) (u_618 : Int32) (u_619 : Int32) (u_620 : Int32) =>
     (x_591, u_614, u_615, u_616, u_617, u_618, u_619, u_620)
    ) else (
     (0, 0, 0, 0, 0, 0, 0, 0)
    )
   )
  )) := rfl
def y_X8_readAll_2_8 (h0_reader_length : Int32) (h0_reader_mostBytes : Int32) (F_h0_reader_bytes : Nat → Int32) (r1_jurors : Int32) (r1_floors : Int32) (F_r1_floorName : Nat → Int64) (F_r1_jurorName : Nat → Int64) : Nat → Int32 → Int32 → Int32 → Int32 → Int64 → Int32 → Int32 → Int32 → Int32 → (Int32 × Int32 × Int32 × Int64 × Int32 × Int32 × Int32 × Int32)
 | 0, _, _, _, _, _, _, _, _, _ => (0, 0, 0, 0, 0, 0, 0, 0)
 | n8 + 1, y8_0, y8_1, y8_2, y8_3, y8_4, y8_5, y8_6, y8_7, y8_8 =>
  if (20 : Int32) ≤ y8_0 then (
   (y8_1, y8_2, y8_3, y8_4, y8_5, y8_6, y8_7, y8_8)
  ) else (
   lt6 (y_X6_takeIf h0_reader_length y8_2 y8_4 h0_reader_mostBytes y8_5 y8_6 y8_7 y8_8 F_h0_reader_bytes 16) fun (r_1060 : Int32) (u_1062 : Int64) (u_1063 : Int32) (u_1064 : Int32) (u_1065 : Int32) (u_1066 : Int32) =>
   if (r_1060 : Int32) = 0 then (
    (y8_1, y8_2, y8_3, u_1062, u_1063, u_1064, u_1065, u_1066)
   ) else (
    lt8 (y_X8_readOne_2 y8_1 h0_reader_length y8_2 y8_3 u_1062 h0_reader_mostBytes u_1063 u_1064 u_1065 u_1066 F_h0_reader_bytes r1_jurors r1_floors F_r1_floorName F_r1_jurorName) fun (u_1085 : Int32) (u_1086 : Int32) (u_1087 : Int32) (u_1088 : Int64) (u_1089 : Int32) (u_1090 : Int32) (u_1091 : Int32) (u_1092 : Int32) =>
    if u_1086 = 0 then (
     lt1 (y8_0 + 1) fun (x_1120 : Int32) =>
     y_X8_readAll_2_8 h0_reader_length h0_reader_mostBytes F_h0_reader_bytes r1_jurors r1_floors F_r1_floorName F_r1_jurorName n8 x_1120 u_1085 u_1086 u_1087 u_1088 u_1089 u_1090 u_1091 u_1092
    ) else (
     lt1 (y8_0 + 1) fun (x_1135 : Int32) =>
     y_X8_readAll_2_8 h0_reader_length h0_reader_mostBytes F_h0_reader_bytes r1_jurors r1_floors F_r1_floorName F_r1_jurorName n8 x_1135 u_1085 u_1086 u_1087 u_1088 u_1089 u_1090 u_1091 u_1092
    )
   )
  )
theorem y_X8_readAll_2_8_s (h0_reader_length : Int32) (h0_reader_mostBytes : Int32) (F_h0_reader_bytes : Nat → Int32) (r1_jurors : Int32) (r1_floors : Int32) (F_r1_floorName : Nat → Int64) (F_r1_jurorName : Nat → Int64) (n8 : Nat) (y8_0 : Int32) (y8_1 : Int32) (y8_2 : Int32) (y8_3 : Int32) (y8_4 : Int64) (y8_5 : Int32) (y8_6 : Int32) (y8_7 : Int32) (y8_8 : Int32) : y_X8_readAll_2_8 h0_reader_length h0_reader_mostBytes F_h0_reader_bytes r1_jurors r1_floors F_r1_floorName F_r1_jurorName (n8 + 1) y8_0 y8_1 y8_2 y8_3 y8_4 y8_5 y8_6 y8_7 y8_8 = (
  if (20 : Int32) ≤ y8_0 then (
   (y8_1, y8_2, y8_3, y8_4, y8_5, y8_6, y8_7, y8_8)
  ) else (
   lt6 (y_X6_takeIf h0_reader_length y8_2 y8_4 h0_reader_mostBytes y8_5 y8_6 y8_7 y8_8 F_h0_reader_bytes 16) fun (r_1060 : Int32) (u_1062 : Int64) (u_1063 : Int32) (u_1064 : Int32) (u_1065 : Int32) (u_1066 : Int32) =>
   if (r_1060 : Int32) = 0 then (
    (y8_1, y8_2, y8_3, u_1062, u_1063, u_1064, u_1065, u_1066)
   ) else (
    lt8 (y_X8_readOne_2 y8_1 h0_reader_length y8_2 y8_3 u_1062 h0_reader_mostBytes u_1063 u_1064 u_1065 u_1066 F_h0_reader_bytes r1_jurors r1_floors F_r1_floorName F_r1_jurorName) fun (u_1085 : Int32) (u_1086 : Int32) (u_1087 : Int32) (u_1088 : Int64) (u_1089 : Int32) (u_1090 : Int32) (u_1091 : Int32) (u_1092 : Int32) =>
    if u_1086 = 0 then (
     lt1 (y8_0 + 1) fun (x_1120 : Int32) =>
     y_X8_readAll_2_8 h0_reader_length h0_reader_mostBytes F_h0_reader_bytes r1_jurors r1_floors F_r1_floorName F_r1_jurorName n8 x_1120 u_1085 u_1086 u_1087 u_1088 u_1089 u_1090 u_1091 u_1092
    ) else (
     lt1 (y8_0 + 1) fun (x_1135 : Int32) =>
     y_X8_readAll_2_8 h0_reader_length h0_reader_mostBytes F_h0_reader_bytes r1_jurors r1_floors F_r1_floorName F_r1_jurorName n8 x_1135 u_1085 u_1086 u_1087 u_1088 u_1089 u_1090 u_1091 u_1092
    )
   )
  )) := rfl
def y_X8_readAll_2 (h0_ones : Int32) (h0_reader_length : Int32) (h0_reader_faultKind : Int32) (h0_reader_faultAt : Int32) (h0_reader_letters : Int64) (h0_reader_mostBytes : Int32) (h0_reader_behind : Int32) (h0_reader_at : Int32) (h0_reader_kind : Int32) (h0_reader_number : Int32) (F_h0_reader_bytes : Nat → Int32) (r1_jurors : Int32) (r1_floors : Int32) (F_r1_floorName : Nat → Int64) (F_r1_jurorName : Nat → Int64)  : Int32 × Int32 × Int32 × Int64 × Int32 × Int32 × Int32 × Int32 :=
  lt8 (y_X8_readOne_2 h0_ones h0_reader_length h0_reader_faultKind h0_reader_faultAt h0_reader_letters h0_reader_mostBytes h0_reader_behind h0_reader_at h0_reader_kind h0_reader_number F_h0_reader_bytes r1_jurors r1_floors F_r1_floorName F_r1_jurorName) fun (u_1141 : Int32) (u_1142 : Int32) (u_1143 : Int32) (u_1144 : Int64) (u_1145 : Int32) (u_1146 : Int32) (u_1147 : Int32) (u_1148 : Int32) =>
  y_X8_readAll_2_8 h0_reader_length h0_reader_mostBytes F_h0_reader_bytes r1_jurors r1_floors F_r1_floorName F_r1_jurorName 21 0 u_1141 u_1142 u_1143 u_1144 u_1145 u_1146 u_1147 u_1148
theorem y_X8_readAll_2_s (h0_ones : Int32) (h0_reader_length : Int32) (h0_reader_faultKind : Int32) (h0_reader_faultAt : Int32) (h0_reader_letters : Int64) (h0_reader_mostBytes : Int32) (h0_reader_behind : Int32) (h0_reader_at : Int32) (h0_reader_kind : Int32) (h0_reader_number : Int32) (F_h0_reader_bytes : Nat → Int32) (r1_jurors : Int32) (r1_floors : Int32) (F_r1_floorName : Nat → Int64) (F_r1_jurorName : Nat → Int64)  : y_X8_readAll_2 h0_ones h0_reader_length h0_reader_faultKind h0_reader_faultAt h0_reader_letters h0_reader_mostBytes h0_reader_behind h0_reader_at h0_reader_kind h0_reader_number F_h0_reader_bytes r1_jurors r1_floors F_r1_floorName F_r1_jurorName = (
  lt8 (y_X8_readOne_2 h0_ones h0_reader_length h0_reader_faultKind h0_reader_faultAt h0_reader_letters h0_reader_mostBytes h0_reader_behind h0_reader_at h0_reader_kind h0_reader_number F_h0_reader_bytes r1_jurors r1_floors F_r1_floorName F_r1_jurorName) fun (u_1141 : Int32) (u_1142 : Int32) (u_1143 : Int32) (u_1144 : Int64) (u_1145 : Int32) (u_1146 : Int32) (u_1147 : Int32) (u_1148 : Int32) =>
  y_X8_readAll_2_8 h0_reader_length h0_reader_mostBytes F_h0_reader_bytes r1_jurors r1_floors F_r1_floorName F_r1_jurorName 21 0 u_1141 u_1142 u_1143 u_1144 u_1145 u_1146 u_1147 u_1148) := rfl
def y_X8_readCond_2_8 (h0_reader_length : Int32) (h0_reader_mostBytes : Int32) (F_h0_reader_bytes : Nat → Int32) (r1_jurors : Int32) (r1_floors : Int32) (F_r1_floorName : Nat → Int64) (F_r1_jurorName : Nat → Int64) : Nat → Int32 → Int32 → Int32 → Int32 → Int64 → Int32 → Int32 → Int32 → Int32 → (Int32 × Int32 × Int32 × Int64 × Int32 × Int32 × Int32 × Int32)
 | 0, _, _, _, _, _, _, _, _, _ => (0, 0, 0, 0, 0, 0, 0, 0)
 | n8 + 1, y8_0, y8_1, y8_2, y8_3, y8_4, y8_5, y8_6, y8_7, y8_8 =>
  if (20 : Int32) ≤ y8_0 then (
   (y8_1, y8_2, y8_3, y8_4, y8_5, y8_6, y8_7, y8_8)
  ) else (
   lt6 (y_X6_takeIf h0_reader_length y8_2 y8_4 h0_reader_mostBytes y8_5 y8_6 y8_7 y8_8 F_h0_reader_bytes 15) fun (r_1060 : Int32) (u_1062 : Int64) (u_1063 : Int32) (u_1064 : Int32) (u_1065 : Int32) (u_1066 : Int32) =>
   if (r_1060 : Int32) = 0 then (
    (y8_1, y8_2, y8_3, u_1062, u_1063, u_1064, u_1065, u_1066)
   ) else (
    lt8 (y_X8_readAll_2 y8_1 h0_reader_length y8_2 y8_3 u_1062 h0_reader_mostBytes u_1063 u_1064 u_1065 u_1066 F_h0_reader_bytes r1_jurors r1_floors F_r1_floorName F_r1_jurorName) fun (u_1085 : Int32) (u_1086 : Int32) (u_1087 : Int32) (u_1088 : Int64) (u_1089 : Int32) (u_1090 : Int32) (u_1091 : Int32) (u_1092 : Int32) =>
    if u_1086 = 0 then (
     lt1 (y8_0 + 1) fun (x_1120 : Int32) =>
     y_X8_readCond_2_8 h0_reader_length h0_reader_mostBytes F_h0_reader_bytes r1_jurors r1_floors F_r1_floorName F_r1_jurorName n8 x_1120 u_1085 u_1086 u_1087 u_1088 u_1089 u_1090 u_1091 u_1092
    ) else (
     lt1 (y8_0 + 1) fun (x_1135 : Int32) =>
     y_X8_readCond_2_8 h0_reader_length h0_reader_mostBytes F_h0_reader_bytes r1_jurors r1_floors F_r1_floorName F_r1_jurorName n8 x_1135 u_1085 u_1086 u_1087 u_1088 u_1089 u_1090 u_1091 u_1092
    )
   )
  )
theorem y_X8_readCond_2_8_s (h0_reader_length : Int32) (h0_reader_mostBytes : Int32) (F_h0_reader_bytes : Nat → Int32) (r1_jurors : Int32) (r1_floors : Int32) (F_r1_floorName : Nat → Int64) (F_r1_jurorName : Nat → Int64) (n8 : Nat) (y8_0 : Int32) (y8_1 : Int32) (y8_2 : Int32) (y8_3 : Int32) (y8_4 : Int64) (y8_5 : Int32) (y8_6 : Int32) (y8_7 : Int32) (y8_8 : Int32) : y_X8_readCond_2_8 h0_reader_length h0_reader_mostBytes F_h0_reader_bytes r1_jurors r1_floors F_r1_floorName F_r1_jurorName (n8 + 1) y8_0 y8_1 y8_2 y8_3 y8_4 y8_5 y8_6 y8_7 y8_8 = (
  if (20 : Int32) ≤ y8_0 then (
   (y8_1, y8_2, y8_3, y8_4, y8_5, y8_6, y8_7, y8_8)
  ) else (
   lt6 (y_X6_takeIf h0_reader_length y8_2 y8_4 h0_reader_mostBytes y8_5 y8_6 y8_7 y8_8 F_h0_reader_bytes 15) fun (r_1060 : Int32) (u_1062 : Int64) (u_1063 : Int32) (u_1064 : Int32) (u_1065 : Int32) (u_1066 : Int32) =>
   if (r_1060 : Int32) = 0 then (
    (y8_1, y8_2, y8_3, u_1062, u_1063, u_1064, u_1065, u_1066)
   ) else (
    lt8 (y_X8_readAll_2 y8_1 h0_reader_length y8_2 y8_3 u_1062 h0_reader_mostBytes u_1063 u_1064 u_1065 u_1066 F_h0_reader_bytes r1_jurors r1_floors F_r1_floorName F_r1_jurorName) fun (u_1085 : Int32) (u_1086 : Int32) (u_1087 : Int32) (u_1088 : Int64) (u_1089 : Int32) (u_1090 : Int32) (u_1091 : Int32) (u_1092 : Int32) =>
    if u_1086 = 0 then (
     lt1 (y8_0 + 1) fun (x_1120 : Int32) =>
     y_X8_readCond_2_8 h0_reader_length h0_reader_mostBytes F_h0_reader_bytes r1_jurors r1_floors F_r1_floorName F_r1_jurorName n8 x_1120 u_1085 u_1086 u_1087 u_1088 u_1089 u_1090 u_1091 u_1092
    ) else (
     lt1 (y8_0 + 1) fun (x_1135 : Int32) =>
     y_X8_readCond_2_8 h0_reader_length h0_reader_mostBytes F_h0_reader_bytes r1_jurors r1_floors F_r1_floorName F_r1_jurorName n8 x_1135 u_1085 u_1086 u_1087 u_1088 u_1089 u_1090 u_1091 u_1092
    )
   )
  )) := rfl
def y_X8_readCond_2 (h0_ones : Int32) (h0_reader_length : Int32) (h0_reader_faultKind : Int32) (h0_reader_faultAt : Int32) (h0_reader_letters : Int64) (h0_reader_mostBytes : Int32) (h0_reader_behind : Int32) (h0_reader_at : Int32) (h0_reader_kind : Int32) (h0_reader_number : Int32) (F_h0_reader_bytes : Nat → Int32) (r1_jurors : Int32) (r1_floors : Int32) (F_r1_floorName : Nat → Int64) (F_r1_jurorName : Nat → Int64)  : Int32 × Int32 × Int32 × Int64 × Int32 × Int32 × Int32 × Int32 :=
  lt8 (y_X8_readAll_2 h0_ones h0_reader_length h0_reader_faultKind h0_reader_faultAt h0_reader_letters h0_reader_mostBytes h0_reader_behind h0_reader_at h0_reader_kind h0_reader_number F_h0_reader_bytes r1_jurors r1_floors F_r1_floorName F_r1_jurorName) fun (u_1141 : Int32) (u_1142 : Int32) (u_1143 : Int32) (u_1144 : Int64) (u_1145 : Int32) (u_1146 : Int32) (u_1147 : Int32) (u_1148 : Int32) =>
  y_X8_readCond_2_8 h0_reader_length h0_reader_mostBytes F_h0_reader_bytes r1_jurors r1_floors F_r1_floorName F_r1_jurorName 21 0 u_1141 u_1142 u_1143 u_1144 u_1145 u_1146 u_1147 u_1148
theorem y_X8_readCond_2_s (h0_ones : Int32) (h0_reader_length : Int32) (h0_reader_faultKind : Int32) (h0_reader_faultAt : Int32) (h0_reader_letters : Int64) (h0_reader_mostBytes : Int32) (h0_reader_behind : Int32) (h0_reader_at : Int32) (h0_reader_kind : Int32) (h0_reader_number : Int32) (F_h0_reader_bytes : Nat → Int32) (r1_jurors : Int32) (r1_floors : Int32) (F_r1_floorName : Nat → Int64) (F_r1_jurorName : Nat → Int64)  : y_X8_readCond_2 h0_ones h0_reader_length h0_reader_faultKind h0_reader_faultAt h0_reader_letters h0_reader_mostBytes h0_reader_behind h0_reader_at h0_reader_kind h0_reader_number F_h0_reader_bytes r1_jurors r1_floors F_r1_floorName F_r1_jurorName = (
  lt8 (y_X8_readAll_2 h0_ones h0_reader_length h0_reader_faultKind h0_reader_faultAt h0_reader_letters h0_reader_mostBytes h0_reader_behind h0_reader_at h0_reader_kind h0_reader_number F_h0_reader_bytes r1_jurors r1_floors F_r1_floorName F_r1_jurorName) fun (u_1141 : Int32) (u_1142 : Int32) (u_1143 : Int32) (u_1144 : Int64) (u_1145 : Int32) (u_1146 : Int32) (u_1147 : Int32) (u_1148 : Int32) =>
  y_X8_readCond_2_8 h0_reader_length h0_reader_mostBytes F_h0_reader_bytes r1_jurors r1_floors F_r1_floorName F_r1_jurorName 21 0 u_1141 u_1142 u_1143 u_1144 u_1145 u_1146 u_1147 u_1148) := rfl
def y_X8_readOne_1 (h0_ones : Int32) (h0_reader_length : Int32) (h0_reader_faultKind : Int32) (h0_reader_faultAt : Int32) (h0_reader_letters : Int64) (h0_reader_mostBytes : Int32) (h0_reader_behind : Int32) (h0_reader_at : Int32) (h0_reader_kind : Int32) (h0_reader_number : Int32) (F_h0_reader_bytes : Nat → Int32) (r1_jurors : Int32) (r1_floors : Int32) (F_r1_floorName : Nat → Int64) (F_r1_jurorName : Nat → Int64)  : Int32 × Int32 × Int32 × Int64 × Int32 × Int32 × Int32 × Int32 :=
  lo (y_X8_plainWord h0_reader_letters h0_reader_kind) (
   lt1 (y_X6_sees h0_reader_letters h0_reader_kind 17) fun (r_318 : Int32) =>
   if (r_318 : Int32) = 0 then (
    lt1 (y_X6_seesSign 40 h0_reader_kind) fun (r_325 : Int32) =>
    if (r_325 : Int32) = 0 then (
     lt4 (y_X6_fail 1 h0_reader_faultKind h0_reader_faultAt h0_reader_letters h0_reader_at h0_reader_kind) fun (u_335 : Int32) (u_336 : Int32) (u_337 : Int64) (u_338 : Int32) =>
     (h0_ones, u_335, u_336, u_337, h0_reader_behind, h0_reader_at, u_338, h0_reader_number)
    ) else (
     if (20 : Int32) ≤ h0_ones then (
      lt4 (y_X6_fail 4 h0_reader_faultKind h0_reader_faultAt h0_reader_letters h0_reader_at h0_reader_kind) fun (u_350 : Int32) (u_351 : Int32) (u_352 : Int64) (u_353 : Int32) =>
      (h0_ones, u_350, u_351, u_352, h0_reader_behind, h0_reader_at, u_353, h0_reader_number)
     ) else (
      lt1 ((h0_ones : Int32) + 1) fun (x_360 : Int32) =>
      lt1 (y_X6_seesSign 40 h0_reader_kind) fun (r_363 : Int32) =>
      if (r_363 : Int32) = 0 then (
       lt5 (y_X6_advance h0_reader_length h0_reader_faultKind h0_reader_letters h0_reader_mostBytes h0_reader_behind h0_reader_at h0_reader_kind h0_reader_number F_h0_reader_bytes) fun (u_373 : Int64) (u_374 : Int32) (u_375 : Int32) (u_376 : Int32) (u_377 : Int32) =>
       lt8 (y_X8_readOne_2 x_360 h0_reader_length h0_reader_faultKind h0_reader_faultAt u_373 h0_reader_mostBytes u_374 u_375 u_376 u_377 F_h0_reader_bytes r1_jurors r1_floors F_r1_floorName F_r1_jurorName) fun (u_383 : Int32) (u_384 : Int32) (u_385 : Int32) (u_386 : Int64) (u_387 : Int32) (u_388 : Int32) (u_389 : Int32) (u_390 : Int32) =>
       if u_384 = 0 then (
        (u_383, u_384, u_385, u_386, u_387, u_388, u_389, u_390)
       ) else (
        (u_383, u_384, u_385, u_386, u_387, u_388, u_389, u_390)
       )
      ) else (
       lt5 (y_X6_advance h0_reader_length h0_reader_faultKind h0_reader_letters h0_reader_mostBytes h0_reader_behind h0_reader_at h0_reader_kind h0_reader_number F_h0_reader_bytes) fun (u_434 : Int64) (u_435 : Int32) (u_436 : Int32) (u_437 : Int32) (u_438 : Int32) =>
       lt8 (y_X8_readCond_2 x_360 h0_reader_length h0_reader_faultKind h0_reader_faultAt u_434 h0_reader_mostBytes u_435 u_436 u_437 u_438 F_h0_reader_bytes r1_jurors r1_floors F_r1_floorName F_r1_jurorName) fun (u_444 : Int32) (u_445 : Int32) (u_446 : Int32) (u_447 : Int64) (u_448 : Int32) (u_449 : Int32) (u_450 : Int32) (u_451 : Int32) =>
       lt7 (y_X6_takeSign 41 h0_reader_length u_445 u_446 u_447 h0_reader_mostBytes u_448 u_449 u_450 u_451 F_h0_reader_bytes) fun (u_469 : Int32) (u_470 : Int32) (u_471 : Int64) (u_472 : Int32) (u_473 : Int32) (u_474 : Int32) (u_475 : Int32) =>
       (u_444, u_469, u_470, u_471, u_472, u_473, u_474, u_475)
      )
     )
    )
   ) else (
    if (20 : Int32) ≤ h0_ones then (
     lt4 (y_X6_fail 4 h0_reader_faultKind h0_reader_faultAt h0_reader_letters h0_reader_at h0_reader_kind) fun (u_487 : Int32) (u_488 : Int32) (u_489 : Int64) (u_490 : Int32) =>
     (h0_ones, u_487, u_488, u_489, h0_reader_behind, h0_reader_at, u_490, h0_reader_number)
    ) else (
     lt1 ((h0_ones : Int32) + 1) fun (x_497 : Int32) =>
     lt1 (y_X6_seesSign 40 h0_reader_kind) fun (r_500 : Int32) =>
     if (r_500 : Int32) = 0 then (
      lt5 (y_X6_advance h0_reader_length h0_reader_faultKind h0_reader_letters h0_reader_mostBytes h0_reader_behind h0_reader_at h0_reader_kind h0_reader_number F_h0_reader_bytes) fun (u_510 : Int64) (u_511 : Int32) (u_512 : Int32) (u_513 : Int32) (u_514 : Int32) =>
      lt8 (y_X8_readOne_2 x_497 h0_reader_length h0_reader_faultKind h0_reader_faultAt u_510 h0_reader_mostBytes u_511 u_512 u_513 u_514 F_h0_reader_bytes r1_jurors r1_floors F_r1_floorName F_r1_jurorName) fun (u_520 : Int32) (u_521 : Int32) (u_522 : Int32) (u_523 : Int64) (u_524 : Int32) (u_525 : Int32) (u_526 : Int32) (u_527 : Int32) =>
      if u_521 = 0 then (
       (u_520, u_521, u_522, u_523, u_524, u_525, u_526, u_527)
      ) else (
       (u_520, u_521, u_522, u_523, u_524, u_525, u_526, u_527)
      )
     ) else (
      (0, 0, 0, 0, 0, 0, 0, 0)
     )
    )
   )
  ) fun (n_569 : Nat) => (
   if (20 : Int32) ≤ h0_ones then (
    lt4 (y_X6_fail 4 h0_reader_faultKind h0_reader_faultAt h0_reader_letters h0_reader_at h0_reader_kind) fun (u_581 : Int32) (u_582 : Int32) (u_583 : Int64) (u_584 : Int32) =>
    (h0_ones, u_581, u_582, u_583, h0_reader_behind, h0_reader_at, u_584, h0_reader_number)
   ) else (
    lt1 ((h0_ones : Int32) + 1) fun (x_591 : Int32) =>
    lt1 (y_X6_seesSign 40 h0_reader_kind) fun (r_594 : Int32) =>
    if (r_594 : Int32) = 0 then (
     lt5 (y_X6_advance h0_reader_length h0_reader_faultKind h0_reader_letters h0_reader_mostBytes h0_reader_behind h0_reader_at h0_reader_kind h0_reader_number F_h0_reader_bytes) fun (u_604 : Int64) (u_605 : Int32) (u_606 : Int32) (u_607 : Int32) (u_608 : Int32) =>
     lt7 (y_X8_readPlain h0_reader_length h0_reader_faultKind h0_reader_faultAt u_604 h0_reader_mostBytes u_605 u_606 u_607 u_608 F_h0_reader_bytes r1_jurors r1_floors F_r1_floorName F_r1_jurorName n_569) fun (u_614 : Int32) (u_615 : Int32) (u_616 : Int64) (u_617 : Int32) (u_618 : Int32) (u_619 : Int32) (u_620 : Int32) =>
     (x_591, u_614, u_615, u_616, u_617, u_618, u_619, u_620)
    ) else (
     (0, 0, 0, 0, 0, 0, 0, 0)
    )
   )
  )
theorem y_X8_readOne_1_s (h0_ones : Int32) (h0_reader_length : Int32) (h0_reader_faultKind : Int32) (h0_reader_faultAt : Int32) (h0_reader_letters : Int64) (h0_reader_mostBytes : Int32) (h0_reader_behind : Int32) (h0_reader_at : Int32) (h0_reader_kind : Int32) (h0_reader_number : Int32) (F_h0_reader_bytes : Nat → Int32) (r1_jurors : Int32) (r1_floors : Int32) (F_r1_floorName : Nat → Int64) (F_r1_jurorName : Nat → Int64)  : y_X8_readOne_1 h0_ones h0_reader_length h0_reader_faultKind h0_reader_faultAt h0_reader_letters h0_reader_mostBytes h0_reader_behind h0_reader_at h0_reader_kind h0_reader_number F_h0_reader_bytes r1_jurors r1_floors F_r1_floorName F_r1_jurorName = (
  lo (y_X8_plainWord h0_reader_letters h0_reader_kind) (
   lt1 (y_X6_sees h0_reader_letters h0_reader_kind 17) fun (r_318 : Int32) =>
   if (r_318 : Int32) = 0 then (
    lt1 (y_X6_seesSign 40 h0_reader_kind) fun (r_325 : Int32) =>
    if (r_325 : Int32) = 0 then (
     lt4 (y_X6_fail 1 h0_reader_faultKind h0_reader_faultAt h0_reader_letters h0_reader_at h0_reader_kind) fun (u_335 : Int32) (u_336 : Int32) (u_337 : Int64) (u_338 : Int32) =>
     (h0_ones, u_335, u_336, u_337, h0_reader_behind, h0_reader_at, u_338, h0_reader_number)
    ) else (
     if (20 : Int32) ≤ h0_ones then (
      lt4 (y_X6_fail 4 h0_reader_faultKind h0_reader_faultAt h0_reader_letters h0_reader_at h0_reader_kind) fun (u_350 : Int32) (u_351 : Int32) (u_352 : Int64) (u_353 : Int32) =>
      (h0_ones, u_350, u_351, u_352, h0_reader_behind, h0_reader_at, u_353, h0_reader_number)
     ) else (
      lt1 ((h0_ones : Int32) + 1) fun (x_360 : Int32) =>
      lt1 (y_X6_seesSign 40 h0_reader_kind) fun (r_363 : Int32) =>
      if (r_363 : Int32) = 0 then (
       lt5 (y_X6_advance h0_reader_length h0_reader_faultKind h0_reader_letters h0_reader_mostBytes h0_reader_behind h0_reader_at h0_reader_kind h0_reader_number F_h0_reader_bytes) fun (u_373 : Int64) (u_374 : Int32) (u_375 : Int32) (u_376 : Int32) (u_377 : Int32) =>
       lt8 (y_X8_readOne_2 x_360 h0_reader_length h0_reader_faultKind h0_reader_faultAt u_373 h0_reader_mostBytes u_374 u_375 u_376 u_377 F_h0_reader_bytes r1_jurors r1_floors F_r1_floorName F_r1_jurorName) fun (u_383 : Int32) (u_384 : Int32) (u_385 : Int32) (u_386 : Int64) (u_387 : Int32) (u_388 : Int32) (u_389 : Int32) (u_390 : Int32) =>
       if u_384 = 0 then (
        (u_383, u_384, u_385, u_386, u_387, u_388, u_389, u_390)
       ) else (
        (u_383, u_384, u_385, u_386, u_387, u_388, u_389, u_390)
       )
      ) else (
       lt5 (y_X6_advance h0_reader_length h0_reader_faultKind h0_reader_letters h0_reader_mostBytes h0_reader_behind h0_reader_at h0_reader_kind h0_reader_number F_h0_reader_bytes) fun (u_434 : Int64) (u_435 : Int32) (u_436 : Int32) (u_437 : Int32) (u_438 : Int32) =>
       lt8 (y_X8_readCond_2 x_360 h0_reader_length h0_reader_faultKind h0_reader_faultAt u_434 h0_reader_mostBytes u_435 u_436 u_437 u_438 F_h0_reader_bytes r1_jurors r1_floors F_r1_floorName F_r1_jurorName) fun (u_444 : Int32) (u_445 : Int32) (u_446 : Int32) (u_447 : Int64) (u_448 : Int32) (u_449 : Int32) (u_450 : Int32) (u_451 : Int32) =>
       lt7 (y_X6_takeSign 41 h0_reader_length u_445 u_446 u_447 h0_reader_mostBytes u_448 u_449 u_450 u_451 F_h0_reader_bytes) fun (u_469 : Int32) (u_470 : Int32) (u_471 : Int64) (u_472 : Int32) (u_473 : Int32) (u_474 : Int32) (u_475 : Int32) =>
       (u_444, u_469, u_470, u_471, u_472, u_473, u_474, u_475)
      )
     )
    )
   ) else (
    if (20 : Int32) ≤ h0_ones then (
     lt4 (y_X6_fail 4 h0_reader_faultKind h0_reader_faultAt h0_reader_letters h0_reader_at h0_reader_kind) fun (u_487 : Int32) (u_488 : Int32) (u_489 : Int64) (u_490 : Int32) =>
     (h0_ones, u_487, u_488, u_489, h0_reader_behind, h0_reader_at, u_490, h0_reader_number)
    ) else (
     lt1 ((h0_ones : Int32) + 1) fun (x_497 : Int32) =>
     lt1 (y_X6_seesSign 40 h0_reader_kind) fun (r_500 : Int32) =>
     if (r_500 : Int32) = 0 then (
      lt5 (y_X6_advance h0_reader_length h0_reader_faultKind h0_reader_letters h0_reader_mostBytes h0_reader_behind h0_reader_at h0_reader_kind h0_reader_number F_h0_reader_bytes) fun (u_510 : Int64) (u_511 : Int32) (u_512 : Int32) (u_513 : Int32) (u_514 : Int32) =>
      lt8 (y_X8_readOne_2 x_497 h0_reader_length h0_reader_faultKind h0_reader_faultAt u_510 h0_reader_mostBytes u_511 u_512 u_513 u_514 F_h0_reader_bytes r1_jurors r1_floors F_r1_floorName F_r1_jurorName) fun (u_520 : Int32) (u_521 : Int32) (u_522 : Int32) (u_523 : Int64) (u_524 : Int32) (u_525 : Int32) (u_526 : Int32) (u_527 : Int32) =>
      if u_521 = 0 then (
       (u_520, u_521, u_522, u_523, u_524, u_525, u_526, u_527)
      ) else (
       (u_520, u_521, u_522, u_523, u_524, u_525, u_526, u_527)
      )
     ) else (
      (0, 0, 0, 0, 0, 0, 0, 0)
     )
    )
   )
  ) fun (n_569 : Nat) => (
   if (20 : Int32) ≤ h0_ones then (
    lt4 (y_X6_fail 4 h0_reader_faultKind h0_reader_faultAt h0_reader_letters h0_reader_at h0_reader_kind) fun (u_581 : Int32) (u_582 : Int32) (u_583 : Int64) (u_584 : Int32) =>
    (h0_ones, u_581, u_582, u_583, h0_reader_behind, h0_reader_at, u_584, h0_reader_number)
   ) else (
    lt1 ((h0_ones : Int32) + 1) fun (x_591 : Int32) =>
    lt1 (y_X6_seesSign 40 h0_reader_kind) fun (r_594 : Int32) =>
    if (r_594 : Int32) = 0 then (
     lt5 (y_X6_advance h0_reader_length h0_reader_faultKind h0_reader_letters h0_reader_mostBytes h0_reader_behind h0_reader_at h0_reader_kind h0_reader_number F_h0_reader_bytes) fun (u_604 : Int64) (u_605 : Int32) (u_606 : Int32) (u_607 : Int32) (u_608 : Int32) =>
     lt7 (y_X8_readPlain h0_reader_length h0_reader_faultKind h0_reader_faultAt u_604 h0_reader_mostBytes u_605 u_606 u_607 u_608 F_h0_reader_bytes r1_jurors r1_floors F_r1_floorName F_r1_jurorName n_569) fun (u_614 : Int32) (u_615 : Int32) (u_616 : Int64) (u_617 : Int32) (u_618 : Int32) (u_619 : Int32) (u_620 : Int32) =>
     (x_591, u_614, u_615, u_616, u_617, u_618, u_619, u_620)
    ) else (
     (0, 0, 0, 0, 0, 0, 0, 0)
    )
   )
  )) := rfl
def y_X8_readAll_1_8 (h0_reader_length : Int32) (h0_reader_mostBytes : Int32) (F_h0_reader_bytes : Nat → Int32) (r1_jurors : Int32) (r1_floors : Int32) (F_r1_floorName : Nat → Int64) (F_r1_jurorName : Nat → Int64) : Nat → Int32 → Int32 → Int32 → Int32 → Int64 → Int32 → Int32 → Int32 → Int32 → (Int32 × Int32 × Int32 × Int64 × Int32 × Int32 × Int32 × Int32)
 | 0, _, _, _, _, _, _, _, _, _ => (0, 0, 0, 0, 0, 0, 0, 0)
 | n8 + 1, y8_0, y8_1, y8_2, y8_3, y8_4, y8_5, y8_6, y8_7, y8_8 =>
  if (20 : Int32) ≤ y8_0 then (
   (y8_1, y8_2, y8_3, y8_4, y8_5, y8_6, y8_7, y8_8)
  ) else (
   lt6 (y_X6_takeIf h0_reader_length y8_2 y8_4 h0_reader_mostBytes y8_5 y8_6 y8_7 y8_8 F_h0_reader_bytes 16) fun (r_1060 : Int32) (u_1062 : Int64) (u_1063 : Int32) (u_1064 : Int32) (u_1065 : Int32) (u_1066 : Int32) =>
   if (r_1060 : Int32) = 0 then (
    (y8_1, y8_2, y8_3, u_1062, u_1063, u_1064, u_1065, u_1066)
   ) else (
    lt8 (y_X8_readOne_1 y8_1 h0_reader_length y8_2 y8_3 u_1062 h0_reader_mostBytes u_1063 u_1064 u_1065 u_1066 F_h0_reader_bytes r1_jurors r1_floors F_r1_floorName F_r1_jurorName) fun (u_1085 : Int32) (u_1086 : Int32) (u_1087 : Int32) (u_1088 : Int64) (u_1089 : Int32) (u_1090 : Int32) (u_1091 : Int32) (u_1092 : Int32) =>
    if u_1086 = 0 then (
     lt1 (y8_0 + 1) fun (x_1120 : Int32) =>
     y_X8_readAll_1_8 h0_reader_length h0_reader_mostBytes F_h0_reader_bytes r1_jurors r1_floors F_r1_floorName F_r1_jurorName n8 x_1120 u_1085 u_1086 u_1087 u_1088 u_1089 u_1090 u_1091 u_1092
    ) else (
     lt1 (y8_0 + 1) fun (x_1135 : Int32) =>
     y_X8_readAll_1_8 h0_reader_length h0_reader_mostBytes F_h0_reader_bytes r1_jurors r1_floors F_r1_floorName F_r1_jurorName n8 x_1135 u_1085 u_1086 u_1087 u_1088 u_1089 u_1090 u_1091 u_1092
    )
   )
  )
theorem y_X8_readAll_1_8_s (h0_reader_length : Int32) (h0_reader_mostBytes : Int32) (F_h0_reader_bytes : Nat → Int32) (r1_jurors : Int32) (r1_floors : Int32) (F_r1_floorName : Nat → Int64) (F_r1_jurorName : Nat → Int64) (n8 : Nat) (y8_0 : Int32) (y8_1 : Int32) (y8_2 : Int32) (y8_3 : Int32) (y8_4 : Int64) (y8_5 : Int32) (y8_6 : Int32) (y8_7 : Int32) (y8_8 : Int32) : y_X8_readAll_1_8 h0_reader_length h0_reader_mostBytes F_h0_reader_bytes r1_jurors r1_floors F_r1_floorName F_r1_jurorName (n8 + 1) y8_0 y8_1 y8_2 y8_3 y8_4 y8_5 y8_6 y8_7 y8_8 = (
  if (20 : Int32) ≤ y8_0 then (
   (y8_1, y8_2, y8_3, y8_4, y8_5, y8_6, y8_7, y8_8)
  ) else (
   lt6 (y_X6_takeIf h0_reader_length y8_2 y8_4 h0_reader_mostBytes y8_5 y8_6 y8_7 y8_8 F_h0_reader_bytes 16) fun (r_1060 : Int32) (u_1062 : Int64) (u_1063 : Int32) (u_1064 : Int32) (u_1065 : Int32) (u_1066 : Int32) =>
   if (r_1060 : Int32) = 0 then (
    (y8_1, y8_2, y8_3, u_1062, u_1063, u_1064, u_1065, u_1066)
   ) else (
    lt8 (y_X8_readOne_1 y8_1 h0_reader_length y8_2 y8_3 u_1062 h0_reader_mostBytes u_1063 u_1064 u_1065 u_1066 F_h0_reader_bytes r1_jurors r1_floors F_r1_floorName F_r1_jurorName) fun (u_1085 : Int32) (u_1086 : Int32) (u_1087 : Int32) (u_1088 : Int64) (u_1089 : Int32) (u_1090 : Int32) (u_1091 : Int32) (u_1092 : Int32) =>
    if u_1086 = 0 then (
     lt1 (y8_0 + 1) fun (x_1120 : Int32) =>
     y_X8_readAll_1_8 h0_reader_length h0_reader_mostBytes F_h0_reader_bytes r1_jurors r1_floors F_r1_floorName F_r1_jurorName n8 x_1120 u_1085 u_1086 u_1087 u_1088 u_1089 u_1090 u_1091 u_1092
    ) else (
     lt1 (y8_0 + 1) fun (x_1135 : Int32) =>
     y_X8_readAll_1_8 h0_reader_length h0_reader_mostBytes F_h0_reader_bytes r1_jurors r1_floors F_r1_floorName F_r1_jurorName n8 x_1135 u_1085 u_1086 u_1087 u_1088 u_1089 u_1090 u_1091 u_1092
    )
   )
  )) := rfl
def y_X8_readAll_1 (h0_ones : Int32) (h0_reader_length : Int32) (h0_reader_faultKind : Int32) (h0_reader_faultAt : Int32) (h0_reader_letters : Int64) (h0_reader_mostBytes : Int32) (h0_reader_behind : Int32) (h0_reader_at : Int32) (h0_reader_kind : Int32) (h0_reader_number : Int32) (F_h0_reader_bytes : Nat → Int32) (r1_jurors : Int32) (r1_floors : Int32) (F_r1_floorName : Nat → Int64) (F_r1_jurorName : Nat → Int64)  : Int32 × Int32 × Int32 × Int64 × Int32 × Int32 × Int32 × Int32 :=
  lt8 (y_X8_readOne_1 h0_ones h0_reader_length h0_reader_faultKind h0_reader_faultAt h0_reader_letters h0_reader_mostBytes h0_reader_behind h0_reader_at h0_reader_kind h0_reader_number F_h0_reader_bytes r1_jurors r1_floors F_r1_floorName F_r1_jurorName) fun (u_1141 : Int32) (u_1142 : Int32) (u_1143 : Int32) (u_1144 : Int64) (u_1145 : Int32) (u_1146 : Int32) (u_1147 : Int32) (u_1148 : Int32) =>
  y_X8_readAll_1_8 h0_reader_length h0_reader_mostBytes F_h0_reader_bytes r1_jurors r1_floors F_r1_floorName F_r1_jurorName 21 0 u_1141 u_1142 u_1143 u_1144 u_1145 u_1146 u_1147 u_1148
theorem y_X8_readAll_1_s (h0_ones : Int32) (h0_reader_length : Int32) (h0_reader_faultKind : Int32) (h0_reader_faultAt : Int32) (h0_reader_letters : Int64) (h0_reader_mostBytes : Int32) (h0_reader_behind : Int32) (h0_reader_at : Int32) (h0_reader_kind : Int32) (h0_reader_number : Int32) (F_h0_reader_bytes : Nat → Int32) (r1_jurors : Int32) (r1_floors : Int32) (F_r1_floorName : Nat → Int64) (F_r1_jurorName : Nat → Int64)  : y_X8_readAll_1 h0_ones h0_reader_length h0_reader_faultKind h0_reader_faultAt h0_reader_letters h0_reader_mostBytes h0_reader_behind h0_reader_at h0_reader_kind h0_reader_number F_h0_reader_bytes r1_jurors r1_floors F_r1_floorName F_r1_jurorName = (
  lt8 (y_X8_readOne_1 h0_ones h0_reader_length h0_reader_faultKind h0_reader_faultAt h0_reader_letters h0_reader_mostBytes h0_reader_behind h0_reader_at h0_reader_kind h0_reader_number F_h0_reader_bytes r1_jurors r1_floors F_r1_floorName F_r1_jurorName) fun (u_1141 : Int32) (u_1142 : Int32) (u_1143 : Int32) (u_1144 : Int64) (u_1145 : Int32) (u_1146 : Int32) (u_1147 : Int32) (u_1148 : Int32) =>
  y_X8_readAll_1_8 h0_reader_length h0_reader_mostBytes F_h0_reader_bytes r1_jurors r1_floors F_r1_floorName F_r1_jurorName 21 0 u_1141 u_1142 u_1143 u_1144 u_1145 u_1146 u_1147 u_1148) := rfl
def y_X8_readCond_1_8 (h0_reader_length : Int32) (h0_reader_mostBytes : Int32) (F_h0_reader_bytes : Nat → Int32) (r1_jurors : Int32) (r1_floors : Int32) (F_r1_floorName : Nat → Int64) (F_r1_jurorName : Nat → Int64) : Nat → Int32 → Int32 → Int32 → Int32 → Int64 → Int32 → Int32 → Int32 → Int32 → (Int32 × Int32 × Int32 × Int64 × Int32 × Int32 × Int32 × Int32)
 | 0, _, _, _, _, _, _, _, _, _ => (0, 0, 0, 0, 0, 0, 0, 0)
 | n8 + 1, y8_0, y8_1, y8_2, y8_3, y8_4, y8_5, y8_6, y8_7, y8_8 =>
  if (20 : Int32) ≤ y8_0 then (
   (y8_1, y8_2, y8_3, y8_4, y8_5, y8_6, y8_7, y8_8)
  ) else (
   lt6 (y_X6_takeIf h0_reader_length y8_2 y8_4 h0_reader_mostBytes y8_5 y8_6 y8_7 y8_8 F_h0_reader_bytes 15) fun (r_1060 : Int32) (u_1062 : Int64) (u_1063 : Int32) (u_1064 : Int32) (u_1065 : Int32) (u_1066 : Int32) =>
   if (r_1060 : Int32) = 0 then (
    (y8_1, y8_2, y8_3, u_1062, u_1063, u_1064, u_1065, u_1066)
   ) else (
    lt8 (y_X8_readAll_1 y8_1 h0_reader_length y8_2 y8_3 u_1062 h0_reader_mostBytes u_1063 u_1064 u_1065 u_1066 F_h0_reader_bytes r1_jurors r1_floors F_r1_floorName F_r1_jurorName) fun (u_1085 : Int32) (u_1086 : Int32) (u_1087 : Int32) (u_1088 : Int64) (u_1089 : Int32) (u_1090 : Int32) (u_1091 : Int32) (u_1092 : Int32) =>
    if u_1086 = 0 then (
     lt1 (y8_0 + 1) fun (x_1120 : Int32) =>
     y_X8_readCond_1_8 h0_reader_length h0_reader_mostBytes F_h0_reader_bytes r1_jurors r1_floors F_r1_floorName F_r1_jurorName n8 x_1120 u_1085 u_1086 u_1087 u_1088 u_1089 u_1090 u_1091 u_1092
    ) else (
     lt1 (y8_0 + 1) fun (x_1135 : Int32) =>
     y_X8_readCond_1_8 h0_reader_length h0_reader_mostBytes F_h0_reader_bytes r1_jurors r1_floors F_r1_floorName F_r1_jurorName n8 x_1135 u_1085 u_1086 u_1087 u_1088 u_1089 u_1090 u_1091 u_1092
    )
   )
  )
theorem y_X8_readCond_1_8_s (h0_reader_length : Int32) (h0_reader_mostBytes : Int32) (F_h0_reader_bytes : Nat → Int32) (r1_jurors : Int32) (r1_floors : Int32) (F_r1_floorName : Nat → Int64) (F_r1_jurorName : Nat → Int64) (n8 : Nat) (y8_0 : Int32) (y8_1 : Int32) (y8_2 : Int32) (y8_3 : Int32) (y8_4 : Int64) (y8_5 : Int32) (y8_6 : Int32) (y8_7 : Int32) (y8_8 : Int32) : y_X8_readCond_1_8 h0_reader_length h0_reader_mostBytes F_h0_reader_bytes r1_jurors r1_floors F_r1_floorName F_r1_jurorName (n8 + 1) y8_0 y8_1 y8_2 y8_3 y8_4 y8_5 y8_6 y8_7 y8_8 = (
  if (20 : Int32) ≤ y8_0 then (
   (y8_1, y8_2, y8_3, y8_4, y8_5, y8_6, y8_7, y8_8)
  ) else (
   lt6 (y_X6_takeIf h0_reader_length y8_2 y8_4 h0_reader_mostBytes y8_5 y8_6 y8_7 y8_8 F_h0_reader_bytes 15) fun (r_1060 : Int32) (u_1062 : Int64) (u_1063 : Int32) (u_1064 : Int32) (u_1065 : Int32) (u_1066 : Int32) =>
   if (r_1060 : Int32) = 0 then (
    (y8_1, y8_2, y8_3, u_1062, u_1063, u_1064, u_1065, u_1066)
   ) else (
    lt8 (y_X8_readAll_1 y8_1 h0_reader_length y8_2 y8_3 u_1062 h0_reader_mostBytes u_1063 u_1064 u_1065 u_1066 F_h0_reader_bytes r1_jurors r1_floors F_r1_floorName F_r1_jurorName) fun (u_1085 : Int32) (u_1086 : Int32) (u_1087 : Int32) (u_1088 : Int64) (u_1089 : Int32) (u_1090 : Int32) (u_1091 : Int32) (u_1092 : Int32) =>
    if u_1086 = 0 then (
     lt1 (y8_0 + 1) fun (x_1120 : Int32) =>
     y_X8_readCond_1_8 h0_reader_length h0_reader_mostBytes F_h0_reader_bytes r1_jurors r1_floors F_r1_floorName F_r1_jurorName n8 x_1120 u_1085 u_1086 u_1087 u_1088 u_1089 u_1090 u_1091 u_1092
    ) else (
     lt1 (y8_0 + 1) fun (x_1135 : Int32) =>
     y_X8_readCond_1_8 h0_reader_length h0_reader_mostBytes F_h0_reader_bytes r1_jurors r1_floors F_r1_floorName F_r1_jurorName n8 x_1135 u_1085 u_1086 u_1087 u_1088 u_1089 u_1090 u_1091 u_1092
    )
   )
  )) := rfl
def y_X8_readCond_1 (h0_ones : Int32) (h0_reader_length : Int32) (h0_reader_faultKind : Int32) (h0_reader_faultAt : Int32) (h0_reader_letters : Int64) (h0_reader_mostBytes : Int32) (h0_reader_behind : Int32) (h0_reader_at : Int32) (h0_reader_kind : Int32) (h0_reader_number : Int32) (F_h0_reader_bytes : Nat → Int32) (r1_jurors : Int32) (r1_floors : Int32) (F_r1_floorName : Nat → Int64) (F_r1_jurorName : Nat → Int64)  : Int32 × Int32 × Int32 × Int64 × Int32 × Int32 × Int32 × Int32 :=
  lt8 (y_X8_readAll_1 h0_ones h0_reader_length h0_reader_faultKind h0_reader_faultAt h0_reader_letters h0_reader_mostBytes h0_reader_behind h0_reader_at h0_reader_kind h0_reader_number F_h0_reader_bytes r1_jurors r1_floors F_r1_floorName F_r1_jurorName) fun (u_1141 : Int32) (u_1142 : Int32) (u_1143 : Int32) (u_1144 : Int64) (u_1145 : Int32) (u_1146 : Int32) (u_1147 : Int32) (u_1148 : Int32) =>
  y_X8_readCond_1_8 h0_reader_length h0_reader_mostBytes F_h0_reader_bytes r1_jurors r1_floors F_r1_floorName F_r1_jurorName 21 0 u_1141 u_1142 u_1143 u_1144 u_1145 u_1146 u_1147 u_1148
theorem y_X8_readCond_1_s (h0_ones : Int32) (h0_reader_length : Int32) (h0_reader_faultKind : Int32) (h0_reader_faultAt : Int32) (h0_reader_letters : Int64) (h0_reader_mostBytes : Int32) (h0_reader_behind : Int32) (h0_reader_at : Int32) (h0_reader_kind : Int32) (h0_reader_number : Int32) (F_h0_reader_bytes : Nat → Int32) (r1_jurors : Int32) (r1_floors : Int32) (F_r1_floorName : Nat → Int64) (F_r1_jurorName : Nat → Int64)  : y_X8_readCond_1 h0_ones h0_reader_length h0_reader_faultKind h0_reader_faultAt h0_reader_letters h0_reader_mostBytes h0_reader_behind h0_reader_at h0_reader_kind h0_reader_number F_h0_reader_bytes r1_jurors r1_floors F_r1_floorName F_r1_jurorName = (
  lt8 (y_X8_readAll_1 h0_ones h0_reader_length h0_reader_faultKind h0_reader_faultAt h0_reader_letters h0_reader_mostBytes h0_reader_behind h0_reader_at h0_reader_kind h0_reader_number F_h0_reader_bytes r1_jurors r1_floors F_r1_floorName F_r1_jurorName) fun (u_1141 : Int32) (u_1142 : Int32) (u_1143 : Int32) (u_1144 : Int64) (u_1145 : Int32) (u_1146 : Int32) (u_1147 : Int32) (u_1148 : Int32) =>
  y_X8_readCond_1_8 h0_reader_length h0_reader_mostBytes F_h0_reader_bytes r1_jurors r1_floors F_r1_floorName F_r1_jurorName 21 0 u_1141 u_1142 u_1143 u_1144 u_1145 u_1146 u_1147 u_1148) := rfl
def y_X8_begin (h0_reader_length : Int32) (h0_reader_letters : Int64) (h0_reader_at : Int32) (h0_reader_kind : Int32) (h0_reader_number : Int32) (F_h0_reader_bytes : Nat → Int32)  : Int64 × Int32 × Int32 × Int32 × Int32 :=
  lt5 (y_X6_begin 200 h0_reader_length h0_reader_letters h0_reader_at h0_reader_kind h0_reader_number F_h0_reader_bytes) fun (u_16 : Int64) (u_17 : Int32) (u_18 : Int32) (u_19 : Int32) (u_20 : Int32) =>
  (u_16, u_17, u_18, u_19, u_20)
theorem y_X8_begin_s (h0_reader_length : Int32) (h0_reader_letters : Int64) (h0_reader_at : Int32) (h0_reader_kind : Int32) (h0_reader_number : Int32) (F_h0_reader_bytes : Nat → Int32)  : y_X8_begin h0_reader_length h0_reader_letters h0_reader_at h0_reader_kind h0_reader_number F_h0_reader_bytes = (
  lt5 (y_X6_begin 200 h0_reader_length h0_reader_letters h0_reader_at h0_reader_kind h0_reader_number F_h0_reader_bytes) fun (u_16 : Int64) (u_17 : Int32) (u_18 : Int32) (u_19 : Int32) (u_20 : Int32) =>
  (u_16, u_17, u_18, u_19, u_20)) := rfl
def y_X8_finish_18  (y18_0 : Int32) (y18_1 : Int32) (y18_2 : Int64) (y18_3 : Int32) : Int32 × Int32 × Int64 × Int32 :=
  (y18_0, y18_1, y18_2, y18_3)
theorem y_X8_finish_18_s  (y18_0 : Int32) (y18_1 : Int32) (y18_2 : Int64) (y18_3 : Int32) : y_X8_finish_18 y18_0 y18_1 y18_2 y18_3 = (
  (y18_0, y18_1, y18_2, y18_3)) := rfl
def y_X8_finish (h0_reader_faultKind : Int32) (h0_reader_faultAt : Int32) (h0_reader_letters : Int64) (h0_reader_at : Int32) (h0_reader_kind : Int32)  : Int32 × Int32 × Int64 × Int32 :=
  lt1 (y_X6_goesOn h0_reader_faultKind h0_reader_kind) fun (r_18 : Int32) =>
  if (r_18 : Int32) = 0 then (
   y_X8_finish_18 h0_reader_faultKind h0_reader_faultAt h0_reader_letters h0_reader_kind
  ) else (
   lt4 (y_X6_fail 1 h0_reader_faultKind h0_reader_faultAt h0_reader_letters h0_reader_at h0_reader_kind) fun (u_27 : Int32) (u_28 : Int32) (u_29 : Int64) (u_30 : Int32) =>
   y_X8_finish_18 u_27 u_28 u_29 u_30
  )
theorem y_X8_finish_s (h0_reader_faultKind : Int32) (h0_reader_faultAt : Int32) (h0_reader_letters : Int64) (h0_reader_at : Int32) (h0_reader_kind : Int32)  : y_X8_finish h0_reader_faultKind h0_reader_faultAt h0_reader_letters h0_reader_at h0_reader_kind = (
  lt1 (y_X6_goesOn h0_reader_faultKind h0_reader_kind) fun (r_18 : Int32) =>
  if (r_18 : Int32) = 0 then (
   y_X8_finish_18 h0_reader_faultKind h0_reader_faultAt h0_reader_letters h0_reader_kind
  ) else (
   lt4 (y_X6_fail 1 h0_reader_faultKind h0_reader_faultAt h0_reader_letters h0_reader_at h0_reader_kind) fun (u_27 : Int32) (u_28 : Int32) (u_29 : Int64) (u_30 : Int32) =>
   y_X8_finish_18 u_27 u_28 u_29 u_30
  )) := rfl
def y_X11_sentence (h0_tape_length : Int32) (h0_tape_letters : Int64) (h0_tape_at : Int32) (h0_tape_kind : Int32) (h0_tape_number : Int32) (F_h0_tape_bytes : Nat → Int32) (h0_law_jurors : Int32) (h0_law_floors : Int32) (F_h0_law_floorName : Nat → Int64) (F_h0_law_jurorName : Nat → Int64)  : Int32 × Int32 :=
  lt5 (y_X8_begin h0_tape_length h0_tape_letters h0_tape_at h0_tape_kind h0_tape_number F_h0_tape_bytes) fun (u_67 : Int64) (u_68 : Int32) (u_69 : Int32) (u_70 : Int32) (u_71 : Int32) =>
  lt8 (y_X8_readCond_1 0 h0_tape_length 0 0 u_67 200 u_68 u_69 u_70 u_71 F_h0_tape_bytes h0_law_jurors h0_law_floors F_h0_law_floorName F_h0_law_jurorName) fun (u_78 : Int32) (u_79 : Int32) (u_80 : Int32) (u_81 : Int64) (u_82 : Int32) (u_83 : Int32) (u_84 : Int32) (u_85 : Int32) =>
  lt4 (y_X8_finish u_79 u_80 u_81 u_83 u_84) fun (u_103 : Int32) (u_104 : Int32) (u_105 : Int64) (u_106 : Int32) =>
  lt1 (y_X6_isBroken u_103) fun (r_110 : Int32) =>
  if (r_110 : Int32) = 0 then (
   (u_78, u_103)
  ) else (
   lt1 (((-1) : Int32) - u_104) fun (x_126 : Int32) =>
   (x_126, u_103)
  )
theorem y_X11_sentence_s (h0_tape_length : Int32) (h0_tape_letters : Int64) (h0_tape_at : Int32) (h0_tape_kind : Int32) (h0_tape_number : Int32) (F_h0_tape_bytes : Nat → Int32) (h0_law_jurors : Int32) (h0_law_floors : Int32) (F_h0_law_floorName : Nat → Int64) (F_h0_law_jurorName : Nat → Int64)  : y_X11_sentence h0_tape_length h0_tape_letters h0_tape_at h0_tape_kind h0_tape_number F_h0_tape_bytes h0_law_jurors h0_law_floors F_h0_law_floorName F_h0_law_jurorName = (
  lt5 (y_X8_begin h0_tape_length h0_tape_letters h0_tape_at h0_tape_kind h0_tape_number F_h0_tape_bytes) fun (u_67 : Int64) (u_68 : Int32) (u_69 : Int32) (u_70 : Int32) (u_71 : Int32) =>
  lt8 (y_X8_readCond_1 0 h0_tape_length 0 0 u_67 200 u_68 u_69 u_70 u_71 F_h0_tape_bytes h0_law_jurors h0_law_floors F_h0_law_floorName F_h0_law_jurorName) fun (u_78 : Int32) (u_79 : Int32) (u_80 : Int32) (u_81 : Int64) (u_82 : Int32) (u_83 : Int32) (u_84 : Int32) (u_85 : Int32) =>
  lt4 (y_X8_finish u_79 u_80 u_81 u_83 u_84) fun (u_103 : Int32) (u_104 : Int32) (u_105 : Int64) (u_106 : Int32) =>
  lt1 (y_X6_isBroken u_103) fun (r_110 : Int32) =>
  if (r_110 : Int32) = 0 then (
   (u_78, u_103)
  ) else (
   lt1 (((-1) : Int32) - u_104) fun (x_126 : Int32) =>
   (x_126, u_103)
  )) := rfl
def y_X12_isWord (a1 : Int32) (h0_kind : Int32) (h0_word : Int64)  : Int32 :=
  if (h0_kind : Int32) = 2 then (
   lt1 (y_X12_wordOf a1) fun (r_23 : Int64) =>
   lt1 (lg_cmp (h0_word : Int64) r_23) fun (x_27 : Int32) =>
   if (x_27 : Int32) = 0 then (
    1
   ) else (
    0
   )
  ) else (
   0
  )
theorem y_X12_isWord_s (a1 : Int32) (h0_kind : Int32) (h0_word : Int64)  : y_X12_isWord a1 h0_kind h0_word = (
  if (h0_kind : Int32) = 2 then (
   lt1 (y_X12_wordOf a1) fun (r_23 : Int64) =>
   lt1 (lg_cmp (h0_word : Int64) r_23) fun (x_27 : Int32) =>
   if (x_27 : Int32) = 0 then (
    1
   ) else (
    0
   )
  ) else (
   0
  )) := rfl
def y_X12_readNamed_j (a2 : Int32) (h0_size : Int32) (h0_limit : Int32) (h0_to : Int32) (h0_from : Int32) (h0_kind : Int32) (h0_number : Int32) (h0_sign : Int32) (h0_fault : Int32) (h0_place : Int32) (h0_word : Int64) (h0_told : Int32) (F_h0_name : Nat → Int64) (F_h0_tape : Nat → Int32)  : Int32 × Int32 × Int32 × Int32 × Int32 × Int32 × Int32 × Int32 × Int64 × Int32 :=
  lt1 (y_X12_isName h0_kind h0_word) fun (r_41 : Int32) =>
  if (r_41 : Int32) = 0 then (
   lt2 (y_X12_bad 1 h0_kind) fun (r_48 : Int32) (u_50 : Int32) =>
   (0, h0_to, h0_from, h0_kind, h0_number, h0_sign, u_50, h0_from, h0_word, h0_told)
  ) else (
   lt1 (y_X12_findIn_0 a2 h0_word F_h0_name) fun (r_53 : Int32) =>
   if (r_53 : Int32) = (-1) then (
    lt2 (y_X12_bad 3 h0_kind) fun (r_76 : Int32) (u_78 : Int32) =>
    (0, h0_to, h0_from, h0_kind, h0_number, h0_sign, u_78, h0_from, h0_word, r_53)
   ) else (
    lt6 (y_X12_go h0_size h0_limit h0_to h0_number h0_sign h0_word F_h0_tape) fun (u_61 : Int32) (u_62 : Int32) (u_63 : Int32) (u_64 : Int32) (u_65 : Int32) (u_66 : Int64) =>
    (1, u_61, u_62, u_63, u_64, u_65, h0_fault, h0_place, u_66, r_53)
   )
  )
theorem y_X12_readNamed_j_s (a2 : Int32) (h0_size : Int32) (h0_limit : Int32) (h0_to : Int32) (h0_from : Int32) (h0_kind : Int32) (h0_number : Int32) (h0_sign : Int32) (h0_fault : Int32) (h0_place : Int32) (h0_word : Int64) (h0_told : Int32) (F_h0_name : Nat → Int64) (F_h0_tape : Nat → Int32)  : y_X12_readNamed_j a2 h0_size h0_limit h0_to h0_from h0_kind h0_number h0_sign h0_fault h0_place h0_word h0_told F_h0_name F_h0_tape = (
  lt1 (y_X12_isName h0_kind h0_word) fun (r_41 : Int32) =>
  if (r_41 : Int32) = 0 then (
   lt2 (y_X12_bad 1 h0_kind) fun (r_48 : Int32) (u_50 : Int32) =>
   (0, h0_to, h0_from, h0_kind, h0_number, h0_sign, u_50, h0_from, h0_word, h0_told)
  ) else (
   lt1 (y_X12_findIn_0 a2 h0_word F_h0_name) fun (r_53 : Int32) =>
   if (r_53 : Int32) = (-1) then (
    lt2 (y_X12_bad 3 h0_kind) fun (r_76 : Int32) (u_78 : Int32) =>
    (0, h0_to, h0_from, h0_kind, h0_number, h0_sign, u_78, h0_from, h0_word, r_53)
   ) else (
    lt6 (y_X12_go h0_size h0_limit h0_to h0_number h0_sign h0_word F_h0_tape) fun (u_61 : Int32) (u_62 : Int32) (u_63 : Int32) (u_64 : Int32) (u_65 : Int32) (u_66 : Int64) =>
    (1, u_61, u_62, u_63, u_64, u_65, h0_fault, h0_place, u_66, r_53)
   )
  )) := rfl
def y_X12_readNamed_f (a2 : Int32) (h0_size : Int32) (h0_limit : Int32) (h0_to : Int32) (h0_from : Int32) (h0_kind : Int32) (h0_number : Int32) (h0_sign : Int32) (h0_fault : Int32) (h0_place : Int32) (h0_word : Int64) (h0_told : Int32) (F_h0_name : Nat → Int64) (F_h0_tape : Nat → Int32)  : Int32 × Int32 × Int32 × Int32 × Int32 × Int32 × Int32 × Int32 × Int64 × Int32 :=
  lt1 (y_X12_isName h0_kind h0_word) fun (r_41 : Int32) =>
  if (r_41 : Int32) = 0 then (
   lt2 (y_X12_bad 1 h0_kind) fun (r_48 : Int32) (u_50 : Int32) =>
   (0, h0_to, h0_from, h0_kind, h0_number, h0_sign, u_50, h0_from, h0_word, h0_told)
  ) else (
   lt1 (y_X12_findIn_10 a2 h0_word F_h0_name) fun (r_53 : Int32) =>
   if (r_53 : Int32) = (-1) then (
    lt2 (y_X12_bad 3 h0_kind) fun (r_76 : Int32) (u_78 : Int32) =>
    (0, h0_to, h0_from, h0_kind, h0_number, h0_sign, u_78, h0_from, h0_word, r_53)
   ) else (
    lt6 (y_X12_go h0_size h0_limit h0_to h0_number h0_sign h0_word F_h0_tape) fun (u_61 : Int32) (u_62 : Int32) (u_63 : Int32) (u_64 : Int32) (u_65 : Int32) (u_66 : Int64) =>
    (1, u_61, u_62, u_63, u_64, u_65, h0_fault, h0_place, u_66, r_53)
   )
  )
theorem y_X12_readNamed_f_s (a2 : Int32) (h0_size : Int32) (h0_limit : Int32) (h0_to : Int32) (h0_from : Int32) (h0_kind : Int32) (h0_number : Int32) (h0_sign : Int32) (h0_fault : Int32) (h0_place : Int32) (h0_word : Int64) (h0_told : Int32) (F_h0_name : Nat → Int64) (F_h0_tape : Nat → Int32)  : y_X12_readNamed_f a2 h0_size h0_limit h0_to h0_from h0_kind h0_number h0_sign h0_fault h0_place h0_word h0_told F_h0_name F_h0_tape = (
  lt1 (y_X12_isName h0_kind h0_word) fun (r_41 : Int32) =>
  if (r_41 : Int32) = 0 then (
   lt2 (y_X12_bad 1 h0_kind) fun (r_48 : Int32) (u_50 : Int32) =>
   (0, h0_to, h0_from, h0_kind, h0_number, h0_sign, u_50, h0_from, h0_word, h0_told)
  ) else (
   lt1 (y_X12_findIn_10 a2 h0_word F_h0_name) fun (r_53 : Int32) =>
   if (r_53 : Int32) = (-1) then (
    lt2 (y_X12_bad 3 h0_kind) fun (r_76 : Int32) (u_78 : Int32) =>
    (0, h0_to, h0_from, h0_kind, h0_number, h0_sign, u_78, h0_from, h0_word, r_53)
   ) else (
    lt6 (y_X12_go h0_size h0_limit h0_to h0_number h0_sign h0_word F_h0_tape) fun (u_61 : Int32) (u_62 : Int32) (u_63 : Int32) (u_64 : Int32) (u_65 : Int32) (u_66 : Int64) =>
    (1, u_61, u_62, u_63, u_64, u_65, h0_fault, h0_place, u_66, r_53)
   )
  )) := rfl
def y_X12_readNamed_c (a2 : Int32) (h0_size : Int32) (h0_limit : Int32) (h0_to : Int32) (h0_from : Int32) (h0_kind : Int32) (h0_number : Int32) (h0_sign : Int32) (h0_fault : Int32) (h0_place : Int32) (h0_word : Int64) (h0_told : Int32) (F_h0_name : Nat → Int64) (F_h0_tape : Nat → Int32)  : Int32 × Int32 × Int32 × Int32 × Int32 × Int32 × Int32 × Int32 × Int64 × Int32 :=
  lt1 (y_X12_isName h0_kind h0_word) fun (r_41 : Int32) =>
  if (r_41 : Int32) = 0 then (
   lt2 (y_X12_bad 1 h0_kind) fun (r_48 : Int32) (u_50 : Int32) =>
   (0, h0_to, h0_from, h0_kind, h0_number, h0_sign, u_50, h0_from, h0_word, h0_told)
  ) else (
   lt1 (y_X12_findIn_14 a2 h0_word F_h0_name) fun (r_53 : Int32) =>
   if (r_53 : Int32) = (-1) then (
    lt2 (y_X12_bad 3 h0_kind) fun (r_76 : Int32) (u_78 : Int32) =>
    (0, h0_to, h0_from, h0_kind, h0_number, h0_sign, u_78, h0_from, h0_word, r_53)
   ) else (
    lt6 (y_X12_go h0_size h0_limit h0_to h0_number h0_sign h0_word F_h0_tape) fun (u_61 : Int32) (u_62 : Int32) (u_63 : Int32) (u_64 : Int32) (u_65 : Int32) (u_66 : Int64) =>
    (1, u_61, u_62, u_63, u_64, u_65, h0_fault, h0_place, u_66, r_53)
   )
  )
theorem y_X12_readNamed_c_s (a2 : Int32) (h0_size : Int32) (h0_limit : Int32) (h0_to : Int32) (h0_from : Int32) (h0_kind : Int32) (h0_number : Int32) (h0_sign : Int32) (h0_fault : Int32) (h0_place : Int32) (h0_word : Int64) (h0_told : Int32) (F_h0_name : Nat → Int64) (F_h0_tape : Nat → Int32)  : y_X12_readNamed_c a2 h0_size h0_limit h0_to h0_from h0_kind h0_number h0_sign h0_fault h0_place h0_word h0_told F_h0_name F_h0_tape = (
  lt1 (y_X12_isName h0_kind h0_word) fun (r_41 : Int32) =>
  if (r_41 : Int32) = 0 then (
   lt2 (y_X12_bad 1 h0_kind) fun (r_48 : Int32) (u_50 : Int32) =>
   (0, h0_to, h0_from, h0_kind, h0_number, h0_sign, u_50, h0_from, h0_word, h0_told)
  ) else (
   lt1 (y_X12_findIn_14 a2 h0_word F_h0_name) fun (r_53 : Int32) =>
   if (r_53 : Int32) = (-1) then (
    lt2 (y_X12_bad 3 h0_kind) fun (r_76 : Int32) (u_78 : Int32) =>
    (0, h0_to, h0_from, h0_kind, h0_number, h0_sign, u_78, h0_from, h0_word, r_53)
   ) else (
    lt6 (y_X12_go h0_size h0_limit h0_to h0_number h0_sign h0_word F_h0_tape) fun (u_61 : Int32) (u_62 : Int32) (u_63 : Int32) (u_64 : Int32) (u_65 : Int32) (u_66 : Int64) =>
    (1, u_61, u_62, u_63, u_64, u_65, h0_fault, h0_place, u_66, r_53)
   )
  )) := rfl
def y_X12_readRing (h0_size : Int32) (h0_limit : Int32) (h0_to : Int32) (h0_from : Int32) (h0_kind : Int32) (h0_number : Int32) (h0_sign : Int32) (h0_fault : Int32) (h0_place : Int32) (h0_word : Int64) (h0_told : Int32) (F_h0_now : Nat → Int32) (F_h0_name : Nat → Int64) (F_h0_tape : Nat → Int32)  : Int32 × Int32 × Int32 × Int32 × Int32 × Int32 × Int32 × Int32 × Int64 × Int32 :=
  lt1 (F_h0_now (1 : Int32).toNatClampNeg) fun (x_86 : Int32) =>
  lt10 (y_X12_readNamed_f x_86 h0_size h0_limit h0_to h0_from h0_kind h0_number h0_sign h0_fault h0_place h0_word h0_told F_h0_name F_h0_tape) fun (r_88 : Int32) (u_90 : Int32) (u_91 : Int32) (u_92 : Int32) (u_93 : Int32) (u_94 : Int32) (u_95 : Int32) (u_96 : Int32) (u_97 : Int64) (u_98 : Int32) =>
  if (r_88 : Int32) = 0 then (
   (0, u_90, u_91, u_92, u_93, u_94, u_95, u_96, u_97, u_98)
  ) else (
   lt1 (F_h0_now (0 : Int32).toNatClampNeg) fun (x_125 : Int32) =>
   lt10 (y_X12_readNamed_j x_125 h0_size h0_limit u_90 u_91 u_92 u_93 u_94 u_95 u_96 u_97 u_98 F_h0_name F_h0_tape) fun (r_127 : Int32) (u_129 : Int32) (u_130 : Int32) (u_131 : Int32) (u_132 : Int32) (u_133 : Int32) (u_134 : Int32) (u_135 : Int32) (u_136 : Int64) (u_137 : Int32) =>
   if (r_127 : Int32) = 0 then (
    (0, u_129, u_130, u_131, u_132, u_133, u_134, u_135, u_136, u_137)
   ) else (
    lt1 ((10 : Int32) * u_98) fun (x_165 : Int32) =>
    lt1 ((u_137 : Int32) + x_165) fun (x_168 : Int32) =>
    (1, u_129, u_130, u_131, u_132, u_133, u_134, u_135, u_136, x_168)
   )
  )
theorem y_X12_readRing_s (h0_size : Int32) (h0_limit : Int32) (h0_to : Int32) (h0_from : Int32) (h0_kind : Int32) (h0_number : Int32) (h0_sign : Int32) (h0_fault : Int32) (h0_place : Int32) (h0_word : Int64) (h0_told : Int32) (F_h0_now : Nat → Int32) (F_h0_name : Nat → Int64) (F_h0_tape : Nat → Int32)  : y_X12_readRing h0_size h0_limit h0_to h0_from h0_kind h0_number h0_sign h0_fault h0_place h0_word h0_told F_h0_now F_h0_name F_h0_tape = (
  lt1 (F_h0_now (1 : Int32).toNatClampNeg) fun (x_86 : Int32) =>
  lt10 (y_X12_readNamed_f x_86 h0_size h0_limit h0_to h0_from h0_kind h0_number h0_sign h0_fault h0_place h0_word h0_told F_h0_name F_h0_tape) fun (r_88 : Int32) (u_90 : Int32) (u_91 : Int32) (u_92 : Int32) (u_93 : Int32) (u_94 : Int32) (u_95 : Int32) (u_96 : Int32) (u_97 : Int64) (u_98 : Int32) =>
  if (r_88 : Int32) = 0 then (
   (0, u_90, u_91, u_92, u_93, u_94, u_95, u_96, u_97, u_98)
  ) else (
   lt1 (F_h0_now (0 : Int32).toNatClampNeg) fun (x_125 : Int32) =>
   lt10 (y_X12_readNamed_j x_125 h0_size h0_limit u_90 u_91 u_92 u_93 u_94 u_95 u_96 u_97 u_98 F_h0_name F_h0_tape) fun (r_127 : Int32) (u_129 : Int32) (u_130 : Int32) (u_131 : Int32) (u_132 : Int32) (u_133 : Int32) (u_134 : Int32) (u_135 : Int32) (u_136 : Int64) (u_137 : Int32) =>
   if (r_127 : Int32) = 0 then (
    (0, u_129, u_130, u_131, u_132, u_133, u_134, u_135, u_136, u_137)
   ) else (
    lt1 ((10 : Int32) * u_98) fun (x_165 : Int32) =>
    lt1 ((u_137 : Int32) + x_165) fun (x_168 : Int32) =>
    (1, u_129, u_130, u_131, u_132, u_133, u_134, u_135, u_136, x_168)
   )
  )) := rfl
def y_X12_readOf (a1 : Int32) (h0_size : Int32) (h0_limit : Int32) (h0_to : Int32) (h0_from : Int32) (h0_kind : Int32) (h0_number : Int32) (h0_sign : Int32) (h0_fault : Int32) (h0_place : Int32) (h0_word : Int64) (h0_told : Int32) (F_h0_now : Nat → Int32) (F_h0_name : Nat → Int64) (F_h0_tape : Nat → Int32)  : Int32 × Int32 × Int32 × Int32 × Int32 × Int32 × Int32 × Int32 × Int64 × Int32 :=
  lt10 (y_X12_readRing h0_size h0_limit h0_to h0_from h0_kind h0_number h0_sign h0_fault h0_place h0_word h0_told F_h0_now F_h0_name F_h0_tape) fun (r_46 : Int32) (u_48 : Int32) (u_49 : Int32) (u_50 : Int32) (u_51 : Int32) (u_52 : Int32) (u_53 : Int32) (u_54 : Int32) (u_55 : Int64) (u_56 : Int32) =>
  if (r_46 : Int32) = 0 then (
   (0, u_48, u_49, u_50, u_51, u_52, u_53, u_54, u_55, u_56)
  ) else (
   lt1 ((50 : Int32) + a1) fun (x_74 : Int32) =>
   (1, u_48, u_49, u_50, u_51, u_52, u_53, u_54, u_55, u_56)
  )
theorem y_X12_readOf_s (a1 : Int32) (h0_size : Int32) (h0_limit : Int32) (h0_to : Int32) (h0_from : Int32) (h0_kind : Int32) (h0_number : Int32) (h0_sign : Int32) (h0_fault : Int32) (h0_place : Int32) (h0_word : Int64) (h0_told : Int32) (F_h0_now : Nat → Int32) (F_h0_name : Nat → Int64) (F_h0_tape : Nat → Int32)  : y_X12_readOf a1 h0_size h0_limit h0_to h0_from h0_kind h0_number h0_sign h0_fault h0_place h0_word h0_told F_h0_now F_h0_name F_h0_tape = (
  lt10 (y_X12_readRing h0_size h0_limit h0_to h0_from h0_kind h0_number h0_sign h0_fault h0_place h0_word h0_told F_h0_now F_h0_name F_h0_tape) fun (r_46 : Int32) (u_48 : Int32) (u_49 : Int32) (u_50 : Int32) (u_51 : Int32) (u_52 : Int32) (u_53 : Int32) (u_54 : Int32) (u_55 : Int64) (u_56 : Int32) =>
  if (r_46 : Int32) = 0 then (
   (0, u_48, u_49, u_50, u_51, u_52, u_53, u_54, u_55, u_56)
  ) else (
   lt1 ((50 : Int32) + a1) fun (x_74 : Int32) =>
   (1, u_48, u_49, u_50, u_51, u_52, u_53, u_54, u_55, u_56)
  )) := rfl
def y_X12_readCompare_33 (a1 : Int32) (h0_size : Int32) (h0_limit : Int32) (h0_to : Int32) (h0_number : Int32) (h0_sign : Int32) (h0_fault : Int32) (h0_place : Int32) (h0_word : Int64) (h0_told : Int32) (F_h0_tape : Nat → Int32)  : Int32 × Int32 × Int32 × Int32 × Int32 × Int32 × Int32 × Int32 × Int64 × Int32 :=
  lt6 (y_X12_go h0_size h0_limit h0_to h0_number h0_sign h0_word F_h0_tape) fun (u_116 : Int32) (u_117 : Int32) (u_118 : Int32) (u_119 : Int32) (u_120 : Int32) (u_121 : Int64) =>
  lt10 (y_X12_readNumber 0 999 h0_size h0_limit u_116 u_117 u_118 u_119 u_120 h0_fault h0_place u_121 h0_told F_h0_tape) fun (r_128 : Int32) (u_130 : Int32) (u_131 : Int32) (u_132 : Int32) (u_133 : Int32) (u_134 : Int32) (u_135 : Int32) (u_136 : Int32) (u_137 : Int64) (u_138 : Int32) =>
  if (r_128 : Int32) = 0 then (
   (0, u_130, u_131, u_132, u_133, u_134, u_135, u_136, u_137, u_138)
  ) else (
   lt1 ((50 : Int32) + a1) fun (x_171 : Int32) =>
   (1, u_130, u_131, u_132, u_133, u_134, u_135, u_136, u_137, u_138)
  )
theorem y_X12_readCompare_33_s (a1 : Int32) (h0_size : Int32) (h0_limit : Int32) (h0_to : Int32) (h0_number : Int32) (h0_sign : Int32) (h0_fault : Int32) (h0_place : Int32) (h0_word : Int64) (h0_told : Int32) (F_h0_tape : Nat → Int32)  : y_X12_readCompare_33 a1 h0_size h0_limit h0_to h0_number h0_sign h0_fault h0_place h0_word h0_told F_h0_tape = (
  lt6 (y_X12_go h0_size h0_limit h0_to h0_number h0_sign h0_word F_h0_tape) fun (u_116 : Int32) (u_117 : Int32) (u_118 : Int32) (u_119 : Int32) (u_120 : Int32) (u_121 : Int64) =>
  lt10 (y_X12_readNumber 0 999 h0_size h0_limit u_116 u_117 u_118 u_119 u_120 h0_fault h0_place u_121 h0_told F_h0_tape) fun (r_128 : Int32) (u_130 : Int32) (u_131 : Int32) (u_132 : Int32) (u_133 : Int32) (u_134 : Int32) (u_135 : Int32) (u_136 : Int32) (u_137 : Int64) (u_138 : Int32) =>
  if (r_128 : Int32) = 0 then (
   (0, u_130, u_131, u_132, u_133, u_134, u_135, u_136, u_137, u_138)
  ) else (
   lt1 ((50 : Int32) + a1) fun (x_171 : Int32) =>
   (1, u_130, u_131, u_132, u_133, u_134, u_135, u_136, u_137, u_138)
  )) := rfl
def y_X12_readCompare (a1 : Int32) (h0_size : Int32) (h0_limit : Int32) (h0_to : Int32) (h0_from : Int32) (h0_kind : Int32) (h0_number : Int32) (h0_sign : Int32) (h0_fault : Int32) (h0_place : Int32) (h0_word : Int64) (h0_told : Int32) (F_h0_tape : Nat → Int32)  : Int32 × Int32 × Int32 × Int32 × Int32 × Int32 × Int32 × Int32 × Int64 × Int32 :=
  lt1 (y_X12_isSign 60 h0_kind h0_sign) fun (r_188 : Int32) =>
  if (r_188 : Int32) = 0 then (
   lt1 (y_X12_isSign 61 h0_kind h0_sign) fun (r_197 : Int32) =>
   if (r_197 : Int32) = 0 then (
    lt1 (y_X12_isSign 62 h0_kind h0_sign) fun (r_206 : Int32) =>
    if (r_206 : Int32) = 0 then (
     lt2 (y_X12_bad 1 h0_kind) fun (r_215 : Int32) (u_217 : Int32) =>
     (0, h0_to, h0_from, h0_kind, h0_number, h0_sign, u_217, h0_from, h0_word, h0_told)
    ) else (
     y_X12_readCompare_33 a1 h0_size h0_limit h0_to h0_number h0_sign h0_fault h0_place h0_word h0_told F_h0_tape
    )
   ) else (
    y_X12_readCompare_33 a1 h0_size h0_limit h0_to h0_number h0_sign h0_fault h0_place h0_word h0_told F_h0_tape
   )
  ) else (
   y_X12_readCompare_33 a1 h0_size h0_limit h0_to h0_number h0_sign h0_fault h0_place h0_word h0_told F_h0_tape
  )
theorem y_X12_readCompare_s (a1 : Int32) (h0_size : Int32) (h0_limit : Int32) (h0_to : Int32) (h0_from : Int32) (h0_kind : Int32) (h0_number : Int32) (h0_sign : Int32) (h0_fault : Int32) (h0_place : Int32) (h0_word : Int64) (h0_told : Int32) (F_h0_tape : Nat → Int32)  : y_X12_readCompare a1 h0_size h0_limit h0_to h0_from h0_kind h0_number h0_sign h0_fault h0_place h0_word h0_told F_h0_tape = (
  lt1 (y_X12_isSign 60 h0_kind h0_sign) fun (r_188 : Int32) =>
  if (r_188 : Int32) = 0 then (
   lt1 (y_X12_isSign 61 h0_kind h0_sign) fun (r_197 : Int32) =>
   if (r_197 : Int32) = 0 then (
    lt1 (y_X12_isSign 62 h0_kind h0_sign) fun (r_206 : Int32) =>
    if (r_206 : Int32) = 0 then (
     lt2 (y_X12_bad 1 h0_kind) fun (r_215 : Int32) (u_217 : Int32) =>
     (0, h0_to, h0_from, h0_kind, h0_number, h0_sign, u_217, h0_from, h0_word, h0_told)
    ) else (
     y_X12_readCompare_33 a1 h0_size h0_limit h0_to h0_number h0_sign h0_fault h0_place h0_word h0_told F_h0_tape
    )
   ) else (
    y_X12_readCompare_33 a1 h0_size h0_limit h0_to h0_number h0_sign h0_fault h0_place h0_word h0_told F_h0_tape
   )
  ) else (
   y_X12_readCompare_33 a1 h0_size h0_limit h0_to h0_number h0_sign h0_fault h0_place h0_word h0_told F_h0_tape
  )) := rfl
def y_X12_readSaid_8_10 (h0_kind : Int32) (h0_word : Int64) (h0_onesMany : Int32) : Nat → Int32 → Int32 → (Int32 × Int32)
 | 0, _, _ => (0, 0)
 | n10 + 1, y10_0, y10_1 =>
  if (25 : Int32) < y10_1 then (
   if (y10_0 : Int32) = 0 then (
    lt2 (y_X12_bad 1 h0_kind) fun (r_588 : Int32) (u_590 : Int32) =>
    (0, u_590)
   ) else (
    if (h0_onesMany : Int32) = 20 then (
     lt2 (y_X12_bad 4 h0_kind) fun (r_574 : Int32) (u_576 : Int32) =>
     (0, u_576)
    ) else (
     lt2 (y_X12_bad 4 h0_kind) fun (r_580 : Int32) (u_582 : Int32) =>
     (0, u_582)
    )
   )
  ) else (
   lt1 (y_X12_isWord y10_1 h0_kind h0_word) fun (r_595 : Int32) =>
   if (r_595 : Int32) = 0 then (
    lt1 (y10_1 + 1) fun (x_602 : Int32) =>
    y_X12_readSaid_8_10 h0_kind h0_word h0_onesMany n10 y10_0 x_602
   ) else (
    if (y10_0 : Int32) = 0 then (
     if (h0_onesMany : Int32) = 20 then (
      lt2 (y_X12_bad 4 h0_kind) fun (r_629 : Int32) (u_631 : Int32) =>
      (0, u_631)
     ) else (
      lt2 (y_X12_bad 4 h0_kind) fun (r_635 : Int32) (u_637 : Int32) =>
      (0, u_637)
     )
    ) else (
     if (h0_onesMany : Int32) = 20 then (
      lt2 (y_X12_bad 4 h0_kind) fun (r_611 : Int32) (u_613 : Int32) =>
      (0, u_613)
     ) else (
      lt2 (y_X12_bad 4 h0_kind) fun (r_617 : Int32) (u_619 : Int32) =>
      (0, u_619)
     )
    )
   )
  )
theorem y_X12_readSaid_8_10_s (h0_kind : Int32) (h0_word : Int64) (h0_onesMany : Int32) (n10 : Nat) (y10_0 : Int32) (y10_1 : Int32) : y_X12_readSaid_8_10 h0_kind h0_word h0_onesMany (n10 + 1) y10_0 y10_1 = (
  if (25 : Int32) < y10_1 then (
   if (y10_0 : Int32) = 0 then (
    lt2 (y_X12_bad 1 h0_kind) fun (r_588 : Int32) (u_590 : Int32) =>
    (0, u_590)
   ) else (
    if (h0_onesMany : Int32) = 20 then (
     lt2 (y_X12_bad 4 h0_kind) fun (r_574 : Int32) (u_576 : Int32) =>
     (0, u_576)
    ) else (
     lt2 (y_X12_bad 4 h0_kind) fun (r_580 : Int32) (u_582 : Int32) =>
     (0, u_582)
    )
   )
  ) else (
   lt1 (y_X12_isWord y10_1 h0_kind h0_word) fun (r_595 : Int32) =>
   if (r_595 : Int32) = 0 then (
    lt1 (y10_1 + 1) fun (x_602 : Int32) =>
    y_X12_readSaid_8_10 h0_kind h0_word h0_onesMany n10 y10_0 x_602
   ) else (
    if (y10_0 : Int32) = 0 then (
     if (h0_onesMany : Int32) = 20 then (
      lt2 (y_X12_bad 4 h0_kind) fun (r_629 : Int32) (u_631 : Int32) =>
      (0, u_631)
     ) else (
      lt2 (y_X12_bad 4 h0_kind) fun (r_635 : Int32) (u_637 : Int32) =>
      (0, u_637)
     )
    ) else (
     if (h0_onesMany : Int32) = 20 then (
      lt2 (y_X12_bad 4 h0_kind) fun (r_611 : Int32) (u_613 : Int32) =>
      (0, u_613)
     ) else (
      lt2 (y_X12_bad 4 h0_kind) fun (r_617 : Int32) (u_619 : Int32) =>
      (0, u_619)
     )
    )
   )
  )) := rfl
def y_X12_readSaid_8 (h0_kind : Int32) (h0_sign : Int32) (h0_word : Int64) (h0_onesMany : Int32)  : Int32 × Int32 :=
  lt1 (y_X12_isSign 40 h0_kind h0_sign) fun (r_640 : Int32) =>
  if (r_640 : Int32) = 0 then (
   y_X12_readSaid_8_10 h0_kind h0_word h0_onesMany 10 0 17
  ) else (
   y_X12_readSaid_8_10 h0_kind h0_word h0_onesMany 10 1 17
  )
theorem y_X12_readSaid_8_s (h0_kind : Int32) (h0_sign : Int32) (h0_word : Int64) (h0_onesMany : Int32)  : y_X12_readSaid_8 h0_kind h0_sign h0_word h0_onesMany = (
  lt1 (y_X12_isSign 40 h0_kind h0_sign) fun (r_640 : Int32) =>
  if (r_640 : Int32) = 0 then (
   y_X12_readSaid_8_10 h0_kind h0_word h0_onesMany 10 0 17
  ) else (
   y_X12_readSaid_8_10 h0_kind h0_word h0_onesMany 10 1 17
  )) := rfl
def y_X12_readAnd_8 (h0_kind : Int32) (h0_sign : Int32) (h0_word : Int64) (h0_onesMany : Int32)  : Int32 × Int32 :=
  lt2 (y_X12_readSaid_8 h0_kind h0_sign h0_word h0_onesMany) fun (r_7 : Int32) (u_9 : Int32) =>
  (0, u_9)
theorem y_X12_readAnd_8_s (h0_kind : Int32) (h0_sign : Int32) (h0_word : Int64) (h0_onesMany : Int32)  : y_X12_readAnd_8 h0_kind h0_sign h0_word h0_onesMany = (
  lt2 (y_X12_readSaid_8 h0_kind h0_sign h0_word h0_onesMany) fun (r_7 : Int32) (u_9 : Int32) =>
  (0, u_9)) := rfl
def y_X12_readOr_8 (h0_kind : Int32) (h0_sign : Int32) (h0_word : Int64) (h0_onesMany : Int32)  : Int32 × Int32 :=
  lt2 (y_X12_readAnd_8 h0_kind h0_sign h0_word h0_onesMany) fun (r_7 : Int32) (u_9 : Int32) =>
  (0, u_9)
theorem y_X12_readOr_8_s (h0_kind : Int32) (h0_sign : Int32) (h0_word : Int64) (h0_onesMany : Int32)  : y_X12_readOr_8 h0_kind h0_sign h0_word h0_onesMany = (
  lt2 (y_X12_readAnd_8 h0_kind h0_sign h0_word h0_onesMany) fun (r_7 : Int32) (u_9 : Int32) =>
  (0, u_9)) := rfl
def y_X12_readBracket_8 (h0_kind : Int32) (h0_sign : Int32) (h0_word : Int64) (h0_onesMany : Int32)  : Int32 × Int32 :=
  lt2 (y_X12_readOr_8 h0_kind h0_sign h0_word h0_onesMany) fun (r_7 : Int32) (u_9 : Int32) =>
  (0, u_9)
theorem y_X12_readBracket_8_s (h0_kind : Int32) (h0_sign : Int32) (h0_word : Int64) (h0_onesMany : Int32)  : y_X12_readBracket_8 h0_kind h0_sign h0_word h0_onesMany = (
  lt2 (y_X12_readOr_8 h0_kind h0_sign h0_word h0_onesMany) fun (r_7 : Int32) (u_9 : Int32) =>
  (0, u_9)) := rfl
def y_X12_readNot_8 (h0_kind : Int32) (h0_sign : Int32) (h0_word : Int64) (h0_onesMany : Int32)  : Int32 × Int32 :=
  lt2 (y_X12_readSaid_8 h0_kind h0_sign h0_word h0_onesMany) fun (r_7 : Int32) (u_9 : Int32) =>
  (0, u_9)
theorem y_X12_readNot_8_s (h0_kind : Int32) (h0_sign : Int32) (h0_word : Int64) (h0_onesMany : Int32)  : y_X12_readNot_8 h0_kind h0_sign h0_word h0_onesMany = (
  lt2 (y_X12_readSaid_8 h0_kind h0_sign h0_word h0_onesMany) fun (r_7 : Int32) (u_9 : Int32) =>
  (0, u_9)) := rfl
def y_X12_readSaid_7_10 (h0_size : Int32) (h0_limit : Int32) (h0_to : Int32) (h0_from : Int32) (h0_kind : Int32) (h0_number : Int32) (h0_sign : Int32) (h0_fault : Int32) (h0_place : Int32) (h0_word : Int64) (h0_told : Int32) (h0_onesMany : Int32) (F_h0_tape : Nat → Int32) (F_h0_now : Nat → Int32) (F_h0_name : Nat → Int64) : Nat → Int32 → Int32 → (Int32 × Int32 × Int32 × Int32 × Int32 × Int32 × Int32 × Int32 × Int64 × Int32 × Int32)
 | 0, _, _ => (0, 0, 0, 0, 0, 0, 0, 0, 0, 0, 0)
 | n10 + 1, y10_0, y10_1 =>
  if (25 : Int32) < y10_1 then (
   if (y10_0 : Int32) = 0 then (
    lt2 (y_X12_bad 1 h0_kind) fun (r_1972 : Int32) (u_1974 : Int32) =>
    (0, h0_to, h0_from, h0_kind, h0_number, h0_sign, u_1974, h0_from, h0_word, h0_told, h0_onesMany)
   ) else (
    if (h0_onesMany : Int32) = 20 then (
     lt2 (y_X12_bad 4 h0_kind) fun (r_1940 : Int32) (u_1942 : Int32) =>
     (0, h0_to, h0_from, h0_kind, h0_number, h0_sign, u_1942, h0_from, h0_word, h0_told, h0_onesMany)
    ) else (
     lt1 ((h0_onesMany : Int32) + 1) fun (x_1946 : Int32) =>
     lt6 (y_X12_go h0_size h0_limit h0_to h0_number h0_sign h0_word F_h0_tape) fun (u_1951 : Int32) (u_1952 : Int32) (u_1953 : Int32) (u_1954 : Int32) (u_1955 : Int32) (u_1956 : Int64) =>
     lt2 (y_X12_readBracket_8 u_1953 u_1955 u_1956 x_1946) fun (r_1963 : Int32) (u_1965 : Int32) =>
     (0, u_1951, u_1952, u_1953, u_1954, u_1955, u_1965, u_1952, u_1956, h0_told, x_1946)
    )
   )
  ) else (
   lt1 (y_X12_isWord y10_1 h0_kind h0_word) fun (r_1979 : Int32) =>
   if (r_1979 : Int32) = 0 then (
    lt1 (y10_1 + 1) fun (x_1986 : Int32) =>
    y_X12_readSaid_7_10 h0_size h0_limit h0_to h0_from h0_kind h0_number h0_sign h0_fault h0_place h0_word h0_told h0_onesMany F_h0_tape F_h0_now F_h0_name n10 y10_0 x_1986
   ) else (
    if (y10_0 : Int32) = 0 then (
     if (h0_onesMany : Int32) = 20 then (
      lt2 (y_X12_bad 4 h0_kind) fun (r_2031 : Int32) (u_2033 : Int32) =>
      (0, h0_to, h0_from, h0_kind, h0_number, h0_sign, u_2033, h0_from, h0_word, h0_told, h0_onesMany)
     ) else (
      lt1 ((h0_onesMany : Int32) + 1) fun (x_2037 : Int32) =>
      lt6 (y_X12_go h0_size h0_limit h0_to h0_number h0_sign h0_word F_h0_tape) fun (u_2042 : Int32) (u_2043 : Int32) (u_2044 : Int32) (u_2045 : Int32) (u_2046 : Int32) (u_2047 : Int64) =>
      if (y10_1 : Int32) = 17 then (
       lt2 (y_X12_readNot_8 u_2044 u_2046 u_2047 x_2037) fun (r_2186 : Int32) (u_2188 : Int32) =>
       (0, u_2042, u_2043, u_2044, u_2045, u_2046, u_2188, u_2043, u_2047, h0_told, x_2037)
      ) else (
       if (21 : Int32) ≤ y10_1 then (
        if (22 : Int32) ≤ y10_1 then (
         lt10 (y_X12_readCompare y10_1 h0_size h0_limit u_2042 u_2043 u_2044 u_2045 u_2046 h0_fault h0_place u_2047 h0_told F_h0_tape) fun (r_2062 : Int32) (u_2064 : Int32) (u_2065 : Int32) (u_2066 : Int32) (u_2067 : Int32) (u_2068 : Int32) (u_2069 : Int32) (u_2070 : Int32) (u_2071 : Int64) (u_2072 : Int32) =>
         if (r_2062 : Int32) = 0 then (
          (0, u_2064, u_2065, u_2066, u_2067, u_2068, u_2069, u_2070, u_2071, u_2072, x_2037)
         ) else (
          (1, u_2064, u_2065, u_2066, u_2067, u_2068, u_2069, u_2070, u_2071, u_2072, x_2037)
         )
        ) else (
         lt10 (y_X12_readOf y10_1 h0_size h0_limit u_2042 u_2043 u_2044 u_2045 u_2046 h0_fault h0_place u_2047 h0_told F_h0_now F_h0_name F_h0_tape) fun (r_2115 : Int32) (u_2117 : Int32) (u_2118 : Int32) (u_2119 : Int32) (u_2120 : Int32) (u_2121 : Int32) (u_2122 : Int32) (u_2123 : Int32) (u_2124 : Int64) (u_2125 : Int32) =>
         if (r_2115 : Int32) = 0 then (
          (0, u_2117, u_2118, u_2119, u_2120, u_2121, u_2122, u_2123, u_2124, u_2125, x_2037)
         ) else (
          (1, u_2117, u_2118, u_2119, u_2120, u_2121, u_2122, u_2123, u_2124, u_2125, x_2037)
         )
        )
       ) else (
        lt1 ((50 : Int32) + y10_1) fun (x_2166 : Int32) =>
        (1, u_2042, u_2043, u_2044, u_2045, u_2046, h0_fault, h0_place, u_2047, h0_told, x_2037)
       )
      )
     )
    ) else (
     if (h0_onesMany : Int32) = 20 then (
      lt2 (y_X12_bad 4 h0_kind) fun (r_1995 : Int32) (u_1997 : Int32) =>
      (0, h0_to, h0_from, h0_kind, h0_number, h0_sign, u_1997, h0_from, h0_word, h0_told, h0_onesMany)
     ) else (
      lt1 ((h0_onesMany : Int32) + 1) fun (x_2001 : Int32) =>
      lt6 (y_X12_go h0_size h0_limit h0_to h0_number h0_sign h0_word F_h0_tape) fun (u_2006 : Int32) (u_2007 : Int32) (u_2008 : Int32) (u_2009 : Int32) (u_2010 : Int32) (u_2011 : Int64) =>
      lt2 (y_X12_readBracket_8 u_2008 u_2010 u_2011 x_2001) fun (r_2018 : Int32) (u_2020 : Int32) =>
      (0, u_2006, u_2007, u_2008, u_2009, u_2010, u_2020, u_2007, u_2011, h0_told, x_2001)
     )
    )
   )
  )
theorem y_X12_readSaid_7_10_s (h0_size : Int32) (h0_limit : Int32) (h0_to : Int32) (h0_from : Int32) (h0_kind : Int32) (h0_number : Int32) (h0_sign : Int32) (h0_fault : Int32) (h0_place : Int32) (h0_word : Int64) (h0_told : Int32) (h0_onesMany : Int32) (F_h0_tape : Nat → Int32) (F_h0_now : Nat → Int32) (F_h0_name : Nat → Int64) (n10 : Nat) (y10_0 : Int32) (y10_1 : Int32) : y_X12_readSaid_7_10 h0_size h0_limit h0_to h0_from h0_kind h0_number h0_sign h0_fault h0_place h0_word h0_told h0_onesMany F_h0_tape F_h0_now F_h0_name (n10 + 1) y10_0 y10_1 = (
  if (25 : Int32) < y10_1 then (
   if (y10_0 : Int32) = 0 then (
    lt2 (y_X12_bad 1 h0_kind) fun (r_1972 : Int32) (u_1974 : Int32) =>
    (0, h0_to, h0_from, h0_kind, h0_number, h0_sign, u_1974, h0_from, h0_word, h0_told, h0_onesMany)
   ) else (
    if (h0_onesMany : Int32) = 20 then (
     lt2 (y_X12_bad 4 h0_kind) fun (r_1940 : Int32) (u_1942 : Int32) =>
     (0, h0_to, h0_from, h0_kind, h0_number, h0_sign, u_1942, h0_from, h0_word, h0_told, h0_onesMany)
    ) else (
     lt1 ((h0_onesMany : Int32) + 1) fun (x_1946 : Int32) =>
     lt6 (y_X12_go h0_size h0_limit h0_to h0_number h0_sign h0_word F_h0_tape) fun (u_1951 : Int32) (u_1952 : Int32) (u_1953 : Int32) (u_1954 : Int32) (u_1955 : Int32) (u_1956 : Int64) =>
     lt2 (y_X12_readBracket_8 u_1953 u_1955 u_1956 x_1946) fun (r_1963 : Int32) (u_1965 : Int32) =>
     (0, u_1951, u_1952, u_1953, u_1954, u_1955, u_1965, u_1952, u_1956, h0_told, x_1946)
    )
   )
  ) else (
   lt1 (y_X12_isWord y10_1 h0_kind h0_word) fun (r_1979 : Int32) =>
   if (r_1979 : Int32) = 0 then (
    lt1 (y10_1 + 1) fun (x_1986 : Int32) =>
    y_X12_readSaid_7_10 h0_size h0_limit h0_to h0_from h0_kind h0_number h0_sign h0_fault h0_place h0_word h0_told h0_onesMany F_h0_tape F_h0_now F_h0_name n10 y10_0 x_1986
   ) else (
    if (y10_0 : Int32) = 0 then (
     if (h0_onesMany : Int32) = 20 then (
      lt2 (y_X12_bad 4 h0_kind) fun (r_2031 : Int32) (u_2033 : Int32) =>
      (0, h0_to, h0_from, h0_kind, h0_number, h0_sign, u_2033, h0_from, h0_word, h0_told, h0_onesMany)
     ) else (
      lt1 ((h0_onesMany : Int32) + 1) fun (x_2037 : Int32) =>
      lt6 (y_X12_go h0_size h0_limit h0_to h0_number h0_sign h0_word F_h0_tape) fun (u_2042 : Int32) (u_2043 : Int32) (u_2044 : Int32) (u_2045 : Int32) (u_2046 : Int32) (u_2047 : Int64) =>
      if (y10_1 : Int32) = 17 then (
       lt2 (y_X12_readNot_8 u_2044 u_2046 u_2047 x_2037) fun (r_2186 : Int32) (u_2188 : Int32) =>
       (0, u_2042, u_2043, u_2044, u_2045, u_2046, u_2188, u_2043, u_2047, h0_told, x_2037)
      ) else (
       if (21 : Int32) ≤ y10_1 then (
        if (22 : Int32) ≤ y10_1 then (
         lt10 (y_X12_readCompare y10_1 h0_size h0_limit u_2042 u_2043 u_2044 u_2045 u_2046 h0_fault h0_place u_2047 h0_told F_h0_tape) fun (r_2062 : Int32) (u_2064 : Int32) (u_2065 : Int32) (u_2066 : Int32) (u_2067 : Int32) (u_2068 : Int32) (u_2069 : Int32) (u_2070 : Int32) (u_2071 : Int64) (u_2072 : Int32) =>
         if (r_2062 : Int32) = 0 then (
          (0, u_2064, u_2065, u_2066, u_2067, u_2068, u_2069, u_2070, u_2071, u_2072, x_2037)
         ) else (
          (1, u_2064, u_2065, u_2066, u_2067, u_2068, u_2069, u_2070, u_2071, u_2072, x_2037)
         )
        ) else (
         lt10 (y_X12_readOf y10_1 h0_size h0_limit u_2042 u_2043 u_2044 u_2045 u_2046 h0_fault h0_place u_2047 h0_told F_h0_now F_h0_name F_h0_tape) fun (r_2115 : Int32) (u_2117 : Int32) (u_2118 : Int32) (u_2119 : Int32) (u_2120 : Int32) (u_2121 : Int32) (u_2122 : Int32) (u_2123 : Int32) (u_2124 : Int64) (u_2125 : Int32) =>
         if (r_2115 : Int32) = 0 then (
          (0, u_2117, u_2118, u_2119, u_2120, u_2121, u_2122, u_2123, u_2124, u_2125, x_2037)
         ) else (
          (1, u_2117, u_2118, u_2119, u_2120, u_2121, u_2122, u_2123, u_2124, u_2125, x_2037)
         )
        )
       ) else (
        lt1 ((50 : Int32) + y10_1) fun (x_2166 : Int32) =>
        (1, u_2042, u_2043, u_2044, u_2045, u_2046, h0_fault, h0_place, u_2047, h0_told, x_2037)
       )
      )
     )
    ) else (
     if (h0_onesMany : Int32) = 20 then (
      lt2 (y_X12_bad 4 h0_kind) fun (r_1995 : Int32) (u_1997 : Int32) =>
      (0, h0_to, h0_from, h0_kind, h0_number, h0_sign, u_1997, h0_from, h0_word, h0_told, h0_onesMany)
     ) else (
      lt1 ((h0_onesMany : Int32) + 1) fun (x_2001 : Int32) =>
      lt6 (y_X12_go h0_size h0_limit h0_to h0_number h0_sign h0_word F_h0_tape) fun (u_2006 : Int32) (u_2007 : Int32) (u_2008 : Int32) (u_2009 : Int32) (u_2010 : Int32) (u_2011 : Int64) =>
      lt2 (y_X12_readBracket_8 u_2008 u_2010 u_2011 x_2001) fun (r_2018 : Int32) (u_2020 : Int32) =>
      (0, u_2006, u_2007, u_2008, u_2009, u_2010, u_2020, u_2007, u_2011, h0_told, x_2001)
     )
    )
   )
  )) := rfl
def y_X12_readSaid_7 (h0_size : Int32) (h0_limit : Int32) (h0_to : Int32) (h0_from : Int32) (h0_kind : Int32) (h0_number : Int32) (h0_sign : Int32) (h0_fault : Int32) (h0_place : Int32) (h0_word : Int64) (h0_told : Int32) (h0_onesMany : Int32) (F_h0_tape : Nat → Int32) (F_h0_now : Nat → Int32) (F_h0_name : Nat → Int64)  : Int32 × Int32 × Int32 × Int32 × Int32 × Int32 × Int32 × Int32 × Int64 × Int32 × Int32 :=
  lt1 (y_X12_isSign 40 h0_kind h0_sign) fun (r_2192 : Int32) =>
  if (r_2192 : Int32) = 0 then (
   y_X12_readSaid_7_10 h0_size h0_limit h0_to h0_from h0_kind h0_number h0_sign h0_fault h0_place h0_word h0_told h0_onesMany F_h0_tape F_h0_now F_h0_name 10 0 17
  ) else (
   y_X12_readSaid_7_10 h0_size h0_limit h0_to h0_from h0_kind h0_number h0_sign h0_fault h0_place h0_word h0_told h0_onesMany F_h0_tape F_h0_now F_h0_name 10 1 17
  )
theorem y_X12_readSaid_7_s (h0_size : Int32) (h0_limit : Int32) (h0_to : Int32) (h0_from : Int32) (h0_kind : Int32) (h0_number : Int32) (h0_sign : Int32) (h0_fault : Int32) (h0_place : Int32) (h0_word : Int64) (h0_told : Int32) (h0_onesMany : Int32) (F_h0_tape : Nat → Int32) (F_h0_now : Nat → Int32) (F_h0_name : Nat → Int64)  : y_X12_readSaid_7 h0_size h0_limit h0_to h0_from h0_kind h0_number h0_sign h0_fault h0_place h0_word h0_told h0_onesMany F_h0_tape F_h0_now F_h0_name = (
  lt1 (y_X12_isSign 40 h0_kind h0_sign) fun (r_2192 : Int32) =>
  if (r_2192 : Int32) = 0 then (
   y_X12_readSaid_7_10 h0_size h0_limit h0_to h0_from h0_kind h0_number h0_sign h0_fault h0_place h0_word h0_told h0_onesMany F_h0_tape F_h0_now F_h0_name 10 0 17
  ) else (
   y_X12_readSaid_7_10 h0_size h0_limit h0_to h0_from h0_kind h0_number h0_sign h0_fault h0_place h0_word h0_told h0_onesMany F_h0_tape F_h0_now F_h0_name 10 1 17
  )) := rfl
def y_X12_readAnd_7_14 (h0_size : Int32) (h0_limit : Int32) (F_h0_tape : Nat → Int32) (F_h0_now : Nat → Int32) (F_h0_name : Nat → Int64) : Nat → Int32 → Int32 → Int32 → Int32 → Int32 → Int32 → Int32 → Int64 → Int32 → Int32 → (Int32 × Int32 × Int32 × Int32 × Int32 × Int32 × Int32 × Int32 × Int64 × Int32 × Int32)
 | 0, _, _, _, _, _, _, _, _, _, _ => (0, 0, 0, 0, 0, 0, 0, 0, 0, 0, 0)
 | n14 + 1, y14_1, y14_2, y14_3, y14_4, y14_5, y14_6, y14_7, y14_8, y14_9, y14_11 =>
  lt1 (y_X12_isWord_16 y14_3 y14_8) fun (r_493 : Int32) =>
  if (r_493 : Int32) = 0 then (
   (1, y14_1, y14_2, y14_3, y14_4, y14_5, y14_6, y14_7, y14_8, y14_9, y14_11)
  ) else (
   lt6 (y_X12_go h0_size h0_limit y14_1 y14_4 y14_5 y14_8 F_h0_tape) fun (u_502 : Int32) (u_503 : Int32) (u_504 : Int32) (u_505 : Int32) (u_506 : Int32) (u_507 : Int64) =>
   lt11 (y_X12_readSaid_7 h0_size h0_limit u_502 u_503 u_504 u_505 u_506 y14_6 y14_7 u_507 y14_9 y14_11 F_h0_tape F_h0_now F_h0_name) fun (r_514 : Int32) (u_519 : Int32) (u_520 : Int32) (u_521 : Int32) (u_522 : Int32) (u_523 : Int32) (u_524 : Int32) (u_525 : Int32) (u_526 : Int64) (u_527 : Int32) (u_529 : Int32) =>
   if (r_514 : Int32) = 0 then (
    (0, u_519, u_520, u_521, u_522, u_523, u_524, u_525, u_526, u_527, u_529)
   ) else (
    y_X12_readAnd_7_14 h0_size h0_limit F_h0_tape F_h0_now F_h0_name n14 u_519 u_520 u_521 u_522 u_523 u_524 u_525 u_526 u_527 u_529
   )
  )
theorem y_X12_readAnd_7_14_s (h0_size : Int32) (h0_limit : Int32) (F_h0_tape : Nat → Int32) (F_h0_now : Nat → Int32) (F_h0_name : Nat → Int64) (n14 : Nat) (y14_1 : Int32) (y14_2 : Int32) (y14_3 : Int32) (y14_4 : Int32) (y14_5 : Int32) (y14_6 : Int32) (y14_7 : Int32) (y14_8 : Int64) (y14_9 : Int32) (y14_11 : Int32) : y_X12_readAnd_7_14 h0_size h0_limit F_h0_tape F_h0_now F_h0_name (n14 + 1) y14_1 y14_2 y14_3 y14_4 y14_5 y14_6 y14_7 y14_8 y14_9 y14_11 = (
  lt1 (y_X12_isWord_16 y14_3 y14_8) fun (r_493 : Int32) =>
  if (r_493 : Int32) = 0 then (
   (1, y14_1, y14_2, y14_3, y14_4, y14_5, y14_6, y14_7, y14_8, y14_9, y14_11)
  ) else (
   lt6 (y_X12_go h0_size h0_limit y14_1 y14_4 y14_5 y14_8 F_h0_tape) fun (u_502 : Int32) (u_503 : Int32) (u_504 : Int32) (u_505 : Int32) (u_506 : Int32) (u_507 : Int64) =>
   lt11 (y_X12_readSaid_7 h0_size h0_limit u_502 u_503 u_504 u_505 u_506 y14_6 y14_7 u_507 y14_9 y14_11 F_h0_tape F_h0_now F_h0_name) fun (r_514 : Int32) (u_519 : Int32) (u_520 : Int32) (u_521 : Int32) (u_522 : Int32) (u_523 : Int32) (u_524 : Int32) (u_525 : Int32) (u_526 : Int64) (u_527 : Int32) (u_529 : Int32) =>
   if (r_514 : Int32) = 0 then (
    (0, u_519, u_520, u_521, u_522, u_523, u_524, u_525, u_526, u_527, u_529)
   ) else (
    y_X12_readAnd_7_14 h0_size h0_limit F_h0_tape F_h0_now F_h0_name n14 u_519 u_520 u_521 u_522 u_523 u_524 u_525 u_526 u_527 u_529
   )
  )) := rfl
def y_X12_readAnd_7 (h0_size : Int32) (h0_limit : Int32) (h0_to : Int32) (h0_from : Int32) (h0_kind : Int32) (h0_number : Int32) (h0_sign : Int32) (h0_fault : Int32) (h0_place : Int32) (h0_word : Int64) (h0_told : Int32) (h0_onesMany : Int32) (F_h0_tape : Nat → Int32) (F_h0_now : Nat → Int32) (F_h0_name : Nat → Int64)  : Int32 × Int32 × Int32 × Int32 × Int32 × Int32 × Int32 × Int32 × Int64 × Int32 × Int32 :=
  lt11 (y_X12_readSaid_7 h0_size h0_limit h0_to h0_from h0_kind h0_number h0_sign h0_fault h0_place h0_word h0_told h0_onesMany F_h0_tape F_h0_now F_h0_name) fun (r_602 : Int32) (u_607 : Int32) (u_608 : Int32) (u_609 : Int32) (u_610 : Int32) (u_611 : Int32) (u_612 : Int32) (u_613 : Int32) (u_614 : Int64) (u_615 : Int32) (u_617 : Int32) =>
  if (r_602 : Int32) = 0 then (
   (0, u_607, u_608, u_609, u_610, u_611, u_612, u_613, u_614, u_615, u_617)
  ) else (
   y_X12_readAnd_7_14 h0_size h0_limit F_h0_tape F_h0_now F_h0_name 60 u_607 u_608 u_609 u_610 u_611 u_612 u_613 u_614 u_615 u_617
  )
theorem y_X12_readAnd_7_s (h0_size : Int32) (h0_limit : Int32) (h0_to : Int32) (h0_from : Int32) (h0_kind : Int32) (h0_number : Int32) (h0_sign : Int32) (h0_fault : Int32) (h0_place : Int32) (h0_word : Int64) (h0_told : Int32) (h0_onesMany : Int32) (F_h0_tape : Nat → Int32) (F_h0_now : Nat → Int32) (F_h0_name : Nat → Int64)  : y_X12_readAnd_7 h0_size h0_limit h0_to h0_from h0_kind h0_number h0_sign h0_fault h0_place h0_word h0_told h0_onesMany F_h0_tape F_h0_now F_h0_name = (
  lt11 (y_X12_readSaid_7 h0_size h0_limit h0_to h0_from h0_kind h0_number h0_sign h0_fault h0_place h0_word h0_told h0_onesMany F_h0_tape F_h0_now F_h0_name) fun (r_602 : Int32) (u_607 : Int32) (u_608 : Int32) (u_609 : Int32) (u_610 : Int32) (u_611 : Int32) (u_612 : Int32) (u_613 : Int32) (u_614 : Int64) (u_615 : Int32) (u_617 : Int32) =>
  if (r_602 : Int32) = 0 then (
   (0, u_607, u_608, u_609, u_610, u_611, u_612, u_613, u_614, u_615, u_617)
  ) else (
   y_X12_readAnd_7_14 h0_size h0_limit F_h0_tape F_h0_now F_h0_name 60 u_607 u_608 u_609 u_610 u_611 u_612 u_613 u_614 u_615 u_617
  )) := rfl
def y_X12_readOr_7_14 (h0_size : Int32) (h0_limit : Int32) (F_h0_tape : Nat → Int32) (F_h0_now : Nat → Int32) (F_h0_name : Nat → Int64) : Nat → Int32 → Int32 → Int32 → Int32 → Int32 → Int32 → Int32 → Int64 → Int32 → Int32 → (Int32 × Int32 × Int32 × Int32 × Int32 × Int32 × Int32 × Int32 × Int64 × Int32 × Int32)
 | 0, _, _, _, _, _, _, _, _, _, _ => (0, 0, 0, 0, 0, 0, 0, 0, 0, 0, 0)
 | n14 + 1, y14_1, y14_2, y14_3, y14_4, y14_5, y14_6, y14_7, y14_8, y14_9, y14_11 =>
  lt1 (y_X12_isWord_15 y14_3 y14_8) fun (r_246 : Int32) =>
  if (r_246 : Int32) = 0 then (
   (1, y14_1, y14_2, y14_3, y14_4, y14_5, y14_6, y14_7, y14_8, y14_9, y14_11)
  ) else (
   lt6 (y_X12_go h0_size h0_limit y14_1 y14_4 y14_5 y14_8 F_h0_tape) fun (u_255 : Int32) (u_256 : Int32) (u_257 : Int32) (u_258 : Int32) (u_259 : Int32) (u_260 : Int64) =>
   lt11 (y_X12_readAnd_7 h0_size h0_limit u_255 u_256 u_257 u_258 u_259 y14_6 y14_7 u_260 y14_9 y14_11 F_h0_tape F_h0_now F_h0_name) fun (r_267 : Int32) (u_272 : Int32) (u_273 : Int32) (u_274 : Int32) (u_275 : Int32) (u_276 : Int32) (u_277 : Int32) (u_278 : Int32) (u_279 : Int64) (u_280 : Int32) (u_282 : Int32) =>
   if (r_267 : Int32) = 0 then (
    (0, u_272, u_273, u_274, u_275, u_276, u_277, u_278, u_279, u_280, u_282)
   ) else (
    y_X12_readOr_7_14 h0_size h0_limit F_h0_tape F_h0_now F_h0_name n14 u_272 u_273 u_274 u_275 u_276 u_277 u_278 u_279 u_280 u_282
   )
  )
theorem y_X12_readOr_7_14_s (h0_size : Int32) (h0_limit : Int32) (F_h0_tape : Nat → Int32) (F_h0_now : Nat → Int32) (F_h0_name : Nat → Int64) (n14 : Nat) (y14_1 : Int32) (y14_2 : Int32) (y14_3 : Int32) (y14_4 : Int32) (y14_5 : Int32) (y14_6 : Int32) (y14_7 : Int32) (y14_8 : Int64) (y14_9 : Int32) (y14_11 : Int32) : y_X12_readOr_7_14 h0_size h0_limit F_h0_tape F_h0_now F_h0_name (n14 + 1) y14_1 y14_2 y14_3 y14_4 y14_5 y14_6 y14_7 y14_8 y14_9 y14_11 = (
  lt1 (y_X12_isWord_15 y14_3 y14_8) fun (r_246 : Int32) =>
  if (r_246 : Int32) = 0 then (
   (1, y14_1, y14_2, y14_3, y14_4, y14_5, y14_6, y14_7, y14_8, y14_9, y14_11)
  ) else (
   lt6 (y_X12_go h0_size h0_limit y14_1 y14_4 y14_5 y14_8 F_h0_tape) fun (u_255 : Int32) (u_256 : Int32) (u_257 : Int32) (u_258 : Int32) (u_259 : Int32) (u_260 : Int64) =>
   lt11 (y_X12_readAnd_7 h0_size h0_limit u_255 u_256 u_257 u_258 u_259 y14_6 y14_7 u_260 y14_9 y14_11 F_h0_tape F_h0_now F_h0_name) fun (r_267 : Int32) (u_272 : Int32) (u_273 : Int32) (u_274 : Int32) (u_275 : Int32) (u_276 : Int32) (u_277 : Int32) (u_278 : Int32) (u_279 : Int64) (u_280 : Int32) (u_282 : Int32) =>
   if (r_267 : Int32) = 0 then (
    (0, u_272, u_273, u_274, u_275, u_276, u_277, u_278, u_279, u_280, u_282)
   ) else (
    y_X12_readOr_7_14 h0_size h0_limit F_h0_tape F_h0_now F_h0_name n14 u_272 u_273 u_274 u_275 u_276 u_277 u_278 u_279 u_280 u_282
   )
  )) := rfl
def y_X12_readOr_7 (h0_size : Int32) (h0_limit : Int32) (h0_to : Int32) (h0_from : Int32) (h0_kind : Int32) (h0_number : Int32) (h0_sign : Int32) (h0_fault : Int32) (h0_place : Int32) (h0_word : Int64) (h0_told : Int32) (h0_onesMany : Int32) (F_h0_tape : Nat → Int32) (F_h0_now : Nat → Int32) (F_h0_name : Nat → Int64)  : Int32 × Int32 × Int32 × Int32 × Int32 × Int32 × Int32 × Int32 × Int64 × Int32 × Int32 :=
  lt11 (y_X12_readAnd_7 h0_size h0_limit h0_to h0_from h0_kind h0_number h0_sign h0_fault h0_place h0_word h0_told h0_onesMany F_h0_tape F_h0_now F_h0_name) fun (r_344 : Int32) (u_349 : Int32) (u_350 : Int32) (u_351 : Int32) (u_352 : Int32) (u_353 : Int32) (u_354 : Int32) (u_355 : Int32) (u_356 : Int64) (u_357 : Int32) (u_359 : Int32) =>
  if (r_344 : Int32) = 0 then (
   (0, u_349, u_350, u_351, u_352, u_353, u_354, u_355, u_356, u_357, u_359)
  ) else (
   y_X12_readOr_7_14 h0_size h0_limit F_h0_tape F_h0_now F_h0_name 60 u_349 u_350 u_351 u_352 u_353 u_354 u_355 u_356 u_357 u_359
  )
theorem y_X12_readOr_7_s (h0_size : Int32) (h0_limit : Int32) (h0_to : Int32) (h0_from : Int32) (h0_kind : Int32) (h0_number : Int32) (h0_sign : Int32) (h0_fault : Int32) (h0_place : Int32) (h0_word : Int64) (h0_told : Int32) (h0_onesMany : Int32) (F_h0_tape : Nat → Int32) (F_h0_now : Nat → Int32) (F_h0_name : Nat → Int64)  : y_X12_readOr_7 h0_size h0_limit h0_to h0_from h0_kind h0_number h0_sign h0_fault h0_place h0_word h0_told h0_onesMany F_h0_tape F_h0_now F_h0_name = (
  lt11 (y_X12_readAnd_7 h0_size h0_limit h0_to h0_from h0_kind h0_number h0_sign h0_fault h0_place h0_word h0_told h0_onesMany F_h0_tape F_h0_now F_h0_name) fun (r_344 : Int32) (u_349 : Int32) (u_350 : Int32) (u_351 : Int32) (u_352 : Int32) (u_353 : Int32) (u_354 : Int32) (u_355 : Int32) (u_356 : Int64) (u_357 : Int32) (u_359 : Int32) =>
  if (r_344 : Int32) = 0 then (
   (0, u_349, u_350, u_351, u_352, u_353, u_354, u_355, u_356, u_357, u_359)
  ) else (
   y_X12_readOr_7_14 h0_size h0_limit F_h0_tape F_h0_now F_h0_name 60 u_349 u_350 u_351 u_352 u_353 u_354 u_355 u_356 u_357 u_359
  )) := rfl
def y_X12_readBracket_7 (h0_size : Int32) (h0_limit : Int32) (h0_to : Int32) (h0_from : Int32) (h0_kind : Int32) (h0_number : Int32) (h0_sign : Int32) (h0_fault : Int32) (h0_place : Int32) (h0_word : Int64) (h0_told : Int32) (h0_onesMany : Int32) (F_h0_tape : Nat → Int32) (F_h0_now : Nat → Int32) (F_h0_name : Nat → Int64)  : Int32 × Int32 × Int32 × Int32 × Int32 × Int32 × Int32 × Int32 × Int64 × Int32 × Int32 :=
  lt11 (y_X12_readOr_7 h0_size h0_limit h0_to h0_from h0_kind h0_number h0_sign h0_fault h0_place h0_word h0_told h0_onesMany F_h0_tape F_h0_now F_h0_name) fun (r_81 : Int32) (u_86 : Int32) (u_87 : Int32) (u_88 : Int32) (u_89 : Int32) (u_90 : Int32) (u_91 : Int32) (u_92 : Int32) (u_93 : Int64) (u_94 : Int32) (u_96 : Int32) =>
  if (r_81 : Int32) = 0 then (
   (0, u_86, u_87, u_88, u_89, u_90, u_91, u_92, u_93, u_94, u_96)
  ) else (
   lt1 (y_X12_isSign 41 u_88 u_90) fun (r_132 : Int32) =>
   if (r_132 : Int32) = 0 then (
    lt2 (y_X12_bad 1 u_88) fun (r_141 : Int32) (u_143 : Int32) =>
    (0, u_86, u_87, u_88, u_89, u_90, u_143, u_87, u_93, u_94, u_96)
   ) else (
    lt6 (y_X12_go h0_size h0_limit u_86 u_89 u_90 u_93 F_h0_tape) fun (u_150 : Int32) (u_151 : Int32) (u_152 : Int32) (u_153 : Int32) (u_154 : Int32) (u_155 : Int64) =>
    (1, u_150, u_151, u_152, u_153, u_154, u_91, u_92, u_155, u_94, u_96)
   )
  )
theorem y_X12_readBracket_7_s (h0_size : Int32) (h0_limit : Int32) (h0_to : Int32) (h0_from : Int32) (h0_kind : Int32) (h0_number : Int32) (h0_sign : Int32) (h0_fault : Int32) (h0_place : Int32) (h0_word : Int64) (h0_told : Int32) (h0_onesMany : Int32) (F_h0_tape : Nat → Int32) (F_h0_now : Nat → Int32) (F_h0_name : Nat → Int64)  : y_X12_readBracket_7 h0_size h0_limit h0_to h0_from h0_kind h0_number h0_sign h0_fault h0_place h0_word h0_told h0_onesMany F_h0_tape F_h0_now F_h0_name = (
  lt11 (y_X12_readOr_7 h0_size h0_limit h0_to h0_from h0_kind h0_number h0_sign h0_fault h0_place h0_word h0_told h0_onesMany F_h0_tape F_h0_now F_h0_name) fun (r_81 : Int32) (u_86 : Int32) (u_87 : Int32) (u_88 : Int32) (u_89 : Int32) (u_90 : Int32) (u_91 : Int32) (u_92 : Int32) (u_93 : Int64) (u_94 : Int32) (u_96 : Int32) =>
  if (r_81 : Int32) = 0 then (
   (0, u_86, u_87, u_88, u_89, u_90, u_91, u_92, u_93, u_94, u_96)
  ) else (
   lt1 (y_X12_isSign 41 u_88 u_90) fun (r_132 : Int32) =>
   if (r_132 : Int32) = 0 then (
    lt2 (y_X12_bad 1 u_88) fun (r_141 : Int32) (u_143 : Int32) =>
    (0, u_86, u_87, u_88, u_89, u_90, u_143, u_87, u_93, u_94, u_96)
   ) else (
    lt6 (y_X12_go h0_size h0_limit u_86 u_89 u_90 u_93 F_h0_tape) fun (u_150 : Int32) (u_151 : Int32) (u_152 : Int32) (u_153 : Int32) (u_154 : Int32) (u_155 : Int64) =>
    (1, u_150, u_151, u_152, u_153, u_154, u_91, u_92, u_155, u_94, u_96)
   )
  )) := rfl
def y_X12_readNot_7 (h0_size : Int32) (h0_limit : Int32) (h0_to : Int32) (h0_from : Int32) (h0_kind : Int32) (h0_number : Int32) (h0_sign : Int32) (h0_fault : Int32) (h0_place : Int32) (h0_word : Int64) (h0_told : Int32) (h0_onesMany : Int32) (F_h0_tape : Nat → Int32) (F_h0_now : Nat → Int32) (F_h0_name : Nat → Int64)  : Int32 × Int32 × Int32 × Int32 × Int32 × Int32 × Int32 × Int32 × Int64 × Int32 × Int32 :=
  lt11 (y_X12_readSaid_7 h0_size h0_limit h0_to h0_from h0_kind h0_number h0_sign h0_fault h0_place h0_word h0_told h0_onesMany F_h0_tape F_h0_now F_h0_name) fun (r_78 : Int32) (u_83 : Int32) (u_84 : Int32) (u_85 : Int32) (u_86 : Int32) (u_87 : Int32) (u_88 : Int32) (u_89 : Int32) (u_90 : Int64) (u_91 : Int32) (u_93 : Int32) =>
  if (r_78 : Int32) = 0 then (
   (0, u_83, u_84, u_85, u_86, u_87, u_88, u_89, u_90, u_91, u_93)
  ) else (
   (1, u_83, u_84, u_85, u_86, u_87, u_88, u_89, u_90, u_91, u_93)
  )
theorem y_X12_readNot_7_s (h0_size : Int32) (h0_limit : Int32) (h0_to : Int32) (h0_from : Int32) (h0_kind : Int32) (h0_number : Int32) (h0_sign : Int32) (h0_fault : Int32) (h0_place : Int32) (h0_word : Int64) (h0_told : Int32) (h0_onesMany : Int32) (F_h0_tape : Nat → Int32) (F_h0_now : Nat → Int32) (F_h0_name : Nat → Int64)  : y_X12_readNot_7 h0_size h0_limit h0_to h0_from h0_kind h0_number h0_sign h0_fault h0_place h0_word h0_told h0_onesMany F_h0_tape F_h0_now F_h0_name = (
  lt11 (y_X12_readSaid_7 h0_size h0_limit h0_to h0_from h0_kind h0_number h0_sign h0_fault h0_place h0_word h0_told h0_onesMany F_h0_tape F_h0_now F_h0_name) fun (r_78 : Int32) (u_83 : Int32) (u_84 : Int32) (u_85 : Int32) (u_86 : Int32) (u_87 : Int32) (u_88 : Int32) (u_89 : Int32) (u_90 : Int64) (u_91 : Int32) (u_93 : Int32) =>
  if (r_78 : Int32) = 0 then (
   (0, u_83, u_84, u_85, u_86, u_87, u_88, u_89, u_90, u_91, u_93)
  ) else (
   (1, u_83, u_84, u_85, u_86, u_87, u_88, u_89, u_90, u_91, u_93)
  )) := rfl
def y_X12_readSaid_6_10 (h0_size : Int32) (h0_limit : Int32) (h0_to : Int32) (h0_from : Int32) (h0_kind : Int32) (h0_number : Int32) (h0_sign : Int32) (h0_fault : Int32) (h0_place : Int32) (h0_word : Int64) (h0_told : Int32) (h0_onesMany : Int32) (F_h0_tape : Nat → Int32) (F_h0_now : Nat → Int32) (F_h0_name : Nat → Int64) : Nat → Int32 → Int32 → (Int32 × Int32 × Int32 × Int32 × Int32 × Int32 × Int32 × Int32 × Int64 × Int32 × Int32)
 | 0, _, _ => (0, 0, 0, 0, 0, 0, 0, 0, 0, 0, 0)
 | n10 + 1, y10_0, y10_1 =>
  if (25 : Int32) < y10_1 then (
   if (y10_0 : Int32) = 0 then (
    lt2 (y_X12_bad 1 h0_kind) fun (r_3283 : Int32) (u_3285 : Int32) =>
    (0, h0_to, h0_from, h0_kind, h0_number, h0_sign, u_3285, h0_from, h0_word, h0_told, h0_onesMany)
   ) else (
    if (h0_onesMany : Int32) = 20 then (
     lt2 (y_X12_bad 4 h0_kind) fun (r_3202 : Int32) (u_3204 : Int32) =>
     (0, h0_to, h0_from, h0_kind, h0_number, h0_sign, u_3204, h0_from, h0_word, h0_told, h0_onesMany)
    ) else (
     lt1 ((h0_onesMany : Int32) + 1) fun (x_3208 : Int32) =>
     lt6 (y_X12_go h0_size h0_limit h0_to h0_number h0_sign h0_word F_h0_tape) fun (u_3213 : Int32) (u_3214 : Int32) (u_3215 : Int32) (u_3216 : Int32) (u_3217 : Int32) (u_3218 : Int64) =>
     lt11 (y_X12_readBracket_7 h0_size h0_limit u_3213 u_3214 u_3215 u_3216 u_3217 h0_fault h0_place u_3218 h0_told x_3208 F_h0_tape F_h0_now F_h0_name) fun (r_3225 : Int32) (u_3230 : Int32) (u_3231 : Int32) (u_3232 : Int32) (u_3233 : Int32) (u_3234 : Int32) (u_3235 : Int32) (u_3236 : Int32) (u_3237 : Int64) (u_3238 : Int32) (u_3240 : Int32) =>
     if (r_3225 : Int32) = 0 then (
      (0, u_3230, u_3231, u_3232, u_3233, u_3234, u_3235, u_3236, u_3237, u_3238, u_3240)
     ) else (
      (1, u_3230, u_3231, u_3232, u_3233, u_3234, u_3235, u_3236, u_3237, u_3238, u_3240)
     )
    )
   )
  ) else (
   lt1 (y_X12_isWord y10_1 h0_kind h0_word) fun (r_3290 : Int32) =>
   if (r_3290 : Int32) = 0 then (
    lt1 (y10_1 + 1) fun (x_3297 : Int32) =>
    y_X12_readSaid_6_10 h0_size h0_limit h0_to h0_from h0_kind h0_number h0_sign h0_fault h0_place h0_word h0_told h0_onesMany F_h0_tape F_h0_now F_h0_name n10 y10_0 x_3297
   ) else (
    if (y10_0 : Int32) = 0 then (
     if (h0_onesMany : Int32) = 20 then (
      lt2 (y_X12_bad 4 h0_kind) fun (r_3391 : Int32) (u_3393 : Int32) =>
      (0, h0_to, h0_from, h0_kind, h0_number, h0_sign, u_3393, h0_from, h0_word, h0_told, h0_onesMany)
     ) else (
      lt1 ((h0_onesMany : Int32) + 1) fun (x_3397 : Int32) =>
      lt6 (y_X12_go h0_size h0_limit h0_to h0_number h0_sign h0_word F_h0_tape) fun (u_3402 : Int32) (u_3403 : Int32) (u_3404 : Int32) (u_3405 : Int32) (u_3406 : Int32) (u_3407 : Int64) =>
      if (y10_1 : Int32) = 17 then (
       lt11 (y_X12_readNot_7 h0_size h0_limit u_3402 u_3403 u_3404 u_3405 u_3406 h0_fault h0_place u_3407 h0_told x_3397 F_h0_tape F_h0_now F_h0_name) fun (r_3546 : Int32) (u_3551 : Int32) (u_3552 : Int32) (u_3553 : Int32) (u_3554 : Int32) (u_3555 : Int32) (u_3556 : Int32) (u_3557 : Int32) (u_3558 : Int64) (u_3559 : Int32) (u_3561 : Int32) =>
       if (r_3546 : Int32) = 0 then (
        (0, u_3551, u_3552, u_3553, u_3554, u_3555, u_3556, u_3557, u_3558, u_3559, u_3561)
       ) else (
        (1, u_3551, u_3552, u_3553, u_3554, u_3555, u_3556, u_3557, u_3558, u_3559, u_3561)
       )
      ) else (
       if (21 : Int32) ≤ y10_1 then (
        if (22 : Int32) ≤ y10_1 then (
         lt10 (y_X12_readCompare y10_1 h0_size h0_limit u_3402 u_3403 u_3404 u_3405 u_3406 h0_fault h0_place u_3407 h0_told F_h0_tape) fun (r_3422 : Int32) (u_3424 : Int32) (u_3425 : Int32) (u_3426 : Int32) (u_3427 : Int32) (u_3428 : Int32) (u_3429 : Int32) (u_3430 : Int32) (u_3431 : Int64) (u_3432 : Int32) =>
         if (r_3422 : Int32) = 0 then (
          (0, u_3424, u_3425, u_3426, u_3427, u_3428, u_3429, u_3430, u_3431, u_3432, x_3397)
         ) else (
          (1, u_3424, u_3425, u_3426, u_3427, u_3428, u_3429, u_3430, u_3431, u_3432, x_3397)
         )
        ) else (
         lt10 (y_X12_readOf y10_1 h0_size h0_limit u_3402 u_3403 u_3404 u_3405 u_3406 h0_fault h0_place u_3407 h0_told F_h0_now F_h0_name F_h0_tape) fun (r_3475 : Int32) (u_3477 : Int32) (u_3478 : Int32) (u_3479 : Int32) (u_3480 : Int32) (u_3481 : Int32) (u_3482 : Int32) (u_3483 : Int32) (u_3484 : Int64) (u_3485 : Int32) =>
         if (r_3475 : Int32) = 0 then (
          (0, u_3477, u_3478, u_3479, u_3480, u_3481, u_3482, u_3483, u_3484, u_3485, x_3397)
         ) else (
          (1, u_3477, u_3478, u_3479, u_3480, u_3481, u_3482, u_3483, u_3484, u_3485, x_3397)
         )
        )
       ) else (
        lt1 ((50 : Int32) + y10_1) fun (x_3526 : Int32) =>
        (1, u_3402, u_3403, u_3404, u_3405, u_3406, h0_fault, h0_place, u_3407, h0_told, x_3397)
       )
      )
     )
    ) else (
     if (h0_onesMany : Int32) = 20 then (
      lt2 (y_X12_bad 4 h0_kind) fun (r_3306 : Int32) (u_3308 : Int32) =>
      (0, h0_to, h0_from, h0_kind, h0_number, h0_sign, u_3308, h0_from, h0_word, h0_told, h0_onesMany)
     ) else (
      lt1 ((h0_onesMany : Int32) + 1) fun (x_3312 : Int32) =>
      lt6 (y_X12_go h0_size h0_limit h0_to h0_number h0_sign h0_word F_h0_tape) fun (u_3317 : Int32) (u_3318 : Int32) (u_3319 : Int32) (u_3320 : Int32) (u_3321 : Int32) (u_3322 : Int64) =>
      lt11 (y_X12_readBracket_7 h0_size h0_limit u_3317 u_3318 u_3319 u_3320 u_3321 h0_fault h0_place u_3322 h0_told x_3312 F_h0_tape F_h0_now F_h0_name) fun (r_3329 : Int32) (u_3334 : Int32) (u_3335 : Int32) (u_3336 : Int32) (u_3337 : Int32) (u_3338 : Int32) (u_3339 : Int32) (u_3340 : Int32) (u_3341 : Int64) (u_3342 : Int32) (u_3344 : Int32) =>
      if (r_3329 : Int32) = 0 then (
       (0, u_3334, u_3335, u_3336, u_3337, u_3338, u_3339, u_3340, u_3341, u_3342, u_3344)
      ) else (
       (1, u_3334, u_3335, u_3336, u_3337, u_3338, u_3339, u_3340, u_3341, u_3342, u_3344)
      )
     )
    )
   )
  )
theorem y_X12_readSaid_6_10_s (h0_size : Int32) (h0_limit : Int32) (h0_to : Int32) (h0_from : Int32) (h0_kind : Int32) (h0_number : Int32) (h0_sign : Int32) (h0_fault : Int32) (h0_place : Int32) (h0_word : Int64) (h0_told : Int32) (h0_onesMany : Int32) (F_h0_tape : Nat → Int32) (F_h0_now : Nat → Int32) (F_h0_name : Nat → Int64) (n10 : Nat) (y10_0 : Int32) (y10_1 : Int32) : y_X12_readSaid_6_10 h0_size h0_limit h0_to h0_from h0_kind h0_number h0_sign h0_fault h0_place h0_word h0_told h0_onesMany F_h0_tape F_h0_now F_h0_name (n10 + 1) y10_0 y10_1 = (
  if (25 : Int32) < y10_1 then (
   if (y10_0 : Int32) = 0 then (
    lt2 (y_X12_bad 1 h0_kind) fun (r_3283 : Int32) (u_3285 : Int32) =>
    (0, h0_to, h0_from, h0_kind, h0_number, h0_sign, u_3285, h0_from, h0_word, h0_told, h0_onesMany)
   ) else (
    if (h0_onesMany : Int32) = 20 then (
     lt2 (y_X12_bad 4 h0_kind) fun (r_3202 : Int32) (u_3204 : Int32) =>
     (0, h0_to, h0_from, h0_kind, h0_number, h0_sign, u_3204, h0_from, h0_word, h0_told, h0_onesMany)
    ) else (
     lt1 ((h0_onesMany : Int32) + 1) fun (x_3208 : Int32) =>
     lt6 (y_X12_go h0_size h0_limit h0_to h0_number h0_sign h0_word F_h0_tape) fun (u_3213 : Int32) (u_3214 : Int32) (u_3215 : Int32) (u_3216 : Int32) (u_3217 : Int32) (u_3218 : Int64) =>
     lt11 (y_X12_readBracket_7 h0_size h0_limit u_3213 u_3214 u_3215 u_3216 u_3217 h0_fault h0_place u_3218 h0_told x_3208 F_h0_tape F_h0_now F_h0_name) fun (r_3225 : Int32) (u_3230 : Int32) (u_3231 : Int32) (u_3232 : Int32) (u_3233 : Int32) (u_3234 : Int32) (u_3235 : Int32) (u_3236 : Int32) (u_3237 : Int64) (u_3238 : Int32) (u_3240 : Int32) =>
     if (r_3225 : Int32) = 0 then (
      (0, u_3230, u_3231, u_3232, u_3233, u_3234, u_3235, u_3236, u_3237, u_3238, u_3240)
     ) else (
      (1, u_3230, u_3231, u_3232, u_3233, u_3234, u_3235, u_3236, u_3237, u_3238, u_3240)
     )
    )
   )
  ) else (
   lt1 (y_X12_isWord y10_1 h0_kind h0_word) fun (r_3290 : Int32) =>
   if (r_3290 : Int32) = 0 then (
    lt1 (y10_1 + 1) fun (x_3297 : Int32) =>
    y_X12_readSaid_6_10 h0_size h0_limit h0_to h0_from h0_kind h0_number h0_sign h0_fault h0_place h0_word h0_told h0_onesMany F_h0_tape F_h0_now F_h0_name n10 y10_0 x_3297
   ) else (
    if (y10_0 : Int32) = 0 then (
     if (h0_onesMany : Int32) = 20 then (
      lt2 (y_X12_bad 4 h0_kind) fun (r_3391 : Int32) (u_3393 : Int32) =>
      (0, h0_to, h0_from, h0_kind, h0_number, h0_sign, u_3393, h0_from, h0_word, h0_told, h0_onesMany)
     ) else (
      lt1 ((h0_onesMany : Int32) + 1) fun (x_3397 : Int32) =>
      lt6 (y_X12_go h0_size h0_limit h0_to h0_number h0_sign h0_word F_h0_tape) fun (u_3402 : Int32) (u_3403 : Int32) (u_3404 : Int32) (u_3405 : Int32) (u_3406 : Int32) (u_3407 : Int64) =>
      if (y10_1 : Int32) = 17 then (
       lt11 (y_X12_readNot_7 h0_size h0_limit u_3402 u_3403 u_3404 u_3405 u_3406 h0_fault h0_place u_3407 h0_told x_3397 F_h0_tape F_h0_now F_h0_name) fun (r_3546 : Int32) (u_3551 : Int32) (u_3552 : Int32) (u_3553 : Int32) (u_3554 : Int32) (u_3555 : Int32) (u_3556 : Int32) (u_3557 : Int32) (u_3558 : Int64) (u_3559 : Int32) (u_3561 : Int32) =>
       if (r_3546 : Int32) = 0 then (
        (0, u_3551, u_3552, u_3553, u_3554, u_3555, u_3556, u_3557, u_3558, u_3559, u_3561)
       ) else (
        (1, u_3551, u_3552, u_3553, u_3554, u_3555, u_3556, u_3557, u_3558, u_3559, u_3561)
       )
      ) else (
       if (21 : Int32) ≤ y10_1 then (
        if (22 : Int32) ≤ y10_1 then (
         lt10 (y_X12_readCompare y10_1 h0_size h0_limit u_3402 u_3403 u_3404 u_3405 u_3406 h0_fault h0_place u_3407 h0_told F_h0_tape) fun (r_3422 : Int32) (u_3424 : Int32) (u_3425 : Int32) (u_3426 : Int32) (u_3427 : Int32) (u_3428 : Int32) (u_3429 : Int32) (u_3430 : Int32) (u_3431 : Int64) (u_3432 : Int32) =>
         if (r_3422 : Int32) = 0 then (
          (0, u_3424, u_3425, u_3426, u_3427, u_3428, u_3429, u_3430, u_3431, u_3432, x_3397)
         ) else (
          (1, u_3424, u_3425, u_3426, u_3427, u_3428, u_3429, u_3430, u_3431, u_3432, x_3397)
         )
        ) else (
         lt10 (y_X12_readOf y10_1 h0_size h0_limit u_3402 u_3403 u_3404 u_3405 u_3406 h0_fault h0_place u_3407 h0_told F_h0_now F_h0_name F_h0_tape) fun (r_3475 : Int32) (u_3477 : Int32) (u_3478 : Int32) (u_3479 : Int32) (u_3480 : Int32) (u_3481 : Int32) (u_3482 : Int32) (u_3483 : Int32) (u_3484 : Int64) (u_3485 : Int32) =>
         if (r_3475 : Int32) = 0 then (
          (0, u_3477, u_3478, u_3479, u_3480, u_3481, u_3482, u_3483, u_3484, u_3485, x_3397)
         ) else (
          (1, u_3477, u_3478, u_3479, u_3480, u_3481, u_3482, u_3483, u_3484, u_3485, x_3397)
         )
        )
       ) else (
        lt1 ((50 : Int32) + y10_1) fun (x_3526 : Int32) =>
        (1, u_3402, u_3403, u_3404, u_3405, u_3406, h0_fault, h0_place, u_3407, h0_told, x_3397)
       )
      )
     )
    ) else (
     if (h0_onesMany : Int32) = 20 then (
      lt2 (y_X12_bad 4 h0_kind) fun (r_3306 : Int32) (u_3308 : Int32) =>
      (0, h0_to, h0_from, h0_kind, h0_number, h0_sign, u_3308, h0_from, h0_word, h0_told, h0_onesMany)
     ) else (
      lt1 ((h0_onesMany : Int32) + 1) fun (x_3312 : Int32) =>
      lt6 (y_X12_go h0_size h0_limit h0_to h0_number h0_sign h0_word F_h0_tape) fun (u_3317 : Int32) (u_3318 : Int32) (u_3319 : Int32) (u_3320 : Int32) (u_3321 : Int32) (u_3322 : Int64) =>
      lt11 (y_X12_readBracket_7 h0_size h0_limit u_3317 u_3318 u_3319 u_3320 u_3321 h0_fault h0_place u_3322 h0_told x_3312 F_h0_tape F_h0_now F_h0_name) fun (r_3329 : Int32) (u_3334 : Int32) (u_3335 : Int32) (u_3336 : Int32) (u_3337 : Int32) (u_3338 : Int32) (u_3339 : Int32) (u_3340 : Int32) (u_3341 : Int64) (u_3342 : Int32) (u_3344 : Int32) =>
      if (r_3329 : Int32) = 0 then (
       (0, u_3334, u_3335, u_3336, u_3337, u_3338, u_3339, u_3340, u_3341, u_3342, u_3344)
      ) else (
       (1, u_3334, u_3335, u_3336, u_3337, u_3338, u_3339, u_3340, u_3341, u_3342, u_3344)
      )
     )
    )
   )
  )) := rfl
def y_X12_readSaid_6 (h0_size : Int32) (h0_limit : Int32) (h0_to : Int32) (h0_from : Int32) (h0_kind : Int32) (h0_number : Int32) (h0_sign : Int32) (h0_fault : Int32) (h0_place : Int32) (h0_word : Int64) (h0_told : Int32) (h0_onesMany : Int32) (F_h0_tape : Nat → Int32) (F_h0_now : Nat → Int32) (F_h0_name : Nat → Int64)  : Int32 × Int32 × Int32 × Int32 × Int32 × Int32 × Int32 × Int32 × Int64 × Int32 × Int32 :=
  lt1 (y_X12_isSign 40 h0_kind h0_sign) fun (r_3611 : Int32) =>
  if (r_3611 : Int32) = 0 then (
   y_X12_readSaid_6_10 h0_size h0_limit h0_to h0_from h0_kind h0_number h0_sign h0_fault h0_place h0_word h0_told h0_onesMany F_h0_tape F_h0_now F_h0_name 10 0 17
  ) else (
   y_X12_readSaid_6_10 h0_size h0_limit h0_to h0_from h0_kind h0_number h0_sign h0_fault h0_place h0_word h0_told h0_onesMany F_h0_tape F_h0_now F_h0_name 10 1 17
  )
theorem y_X12_readSaid_6_s (h0_size : Int32) (h0_limit : Int32) (h0_to : Int32) (h0_from : Int32) (h0_kind : Int32) (h0_number : Int32) (h0_sign : Int32) (h0_fault : Int32) (h0_place : Int32) (h0_word : Int64) (h0_told : Int32) (h0_onesMany : Int32) (F_h0_tape : Nat → Int32) (F_h0_now : Nat → Int32) (F_h0_name : Nat → Int64)  : y_X12_readSaid_6 h0_size h0_limit h0_to h0_from h0_kind h0_number h0_sign h0_fault h0_place h0_word h0_told h0_onesMany F_h0_tape F_h0_now F_h0_name = (
  lt1 (y_X12_isSign 40 h0_kind h0_sign) fun (r_3611 : Int32) =>
  if (r_3611 : Int32) = 0 then (
   y_X12_readSaid_6_10 h0_size h0_limit h0_to h0_from h0_kind h0_number h0_sign h0_fault h0_place h0_word h0_told h0_onesMany F_h0_tape F_h0_now F_h0_name 10 0 17
  ) else (
   y_X12_readSaid_6_10 h0_size h0_limit h0_to h0_from h0_kind h0_number h0_sign h0_fault h0_place h0_word h0_told h0_onesMany F_h0_tape F_h0_now F_h0_name 10 1 17
  )) := rfl
def y_X12_readAnd_6_14 (h0_size : Int32) (h0_limit : Int32) (F_h0_tape : Nat → Int32) (F_h0_now : Nat → Int32) (F_h0_name : Nat → Int64) : Nat → Int32 → Int32 → Int32 → Int32 → Int32 → Int32 → Int32 → Int64 → Int32 → Int32 → (Int32 × Int32 × Int32 × Int32 × Int32 × Int32 × Int32 × Int32 × Int64 × Int32 × Int32)
 | 0, _, _, _, _, _, _, _, _, _, _ => (0, 0, 0, 0, 0, 0, 0, 0, 0, 0, 0)
 | n14 + 1, y14_1, y14_2, y14_3, y14_4, y14_5, y14_6, y14_7, y14_8, y14_9, y14_11 =>
  lt1 (y_X12_isWord_16 y14_3 y14_8) fun (r_243 : Int32) =>
  if (r_243 : Int32) = 0 then (
   (1, y14_1, y14_2, y14_3, y14_4, y14_5, y14_6, y14_7, y14_8, y14_9, y14_11)
  ) else (
   lt6 (y_X12_go h0_size h0_limit y14_1 y14_4 y14_5 y14_8 F_h0_tape) fun (u_252 : Int32) (u_253 : Int32) (u_254 : Int32) (u_255 : Int32) (u_256 : Int32) (u_257 : Int64) =>
   lt11 (y_X12_readSaid_6 h0_size h0_limit u_252 u_253 u_254 u_255 u_256 y14_6 y14_7 u_257 y14_9 y14_11 F_h0_tape F_h0_now F_h0_name) fun (r_264 : Int32) (u_269 : Int32) (u_270 : Int32) (u_271 : Int32) (u_272 : Int32) (u_273 : Int32) (u_274 : Int32) (u_275 : Int32) (u_276 : Int64) (u_277 : Int32) (u_279 : Int32) =>
   if (r_264 : Int32) = 0 then (
    (0, u_269, u_270, u_271, u_272, u_273, u_274, u_275, u_276, u_277, u_279)
   ) else (
    y_X12_readAnd_6_14 h0_size h0_limit F_h0_tape F_h0_now F_h0_name n14 u_269 u_270 u_271 u_272 u_273 u_274 u_275 u_276 u_277 u_279
   )
  )
theorem y_X12_readAnd_6_14_s (h0_size : Int32) (h0_limit : Int32) (F_h0_tape : Nat → Int32) (F_h0_now : Nat → Int32) (F_h0_name : Nat → Int64) (n14 : Nat) (y14_1 : Int32) (y14_2 : Int32) (y14_3 : Int32) (y14_4 : Int32) (y14_5 : Int32) (y14_6 : Int32) (y14_7 : Int32) (y14_8 : Int64) (y14_9 : Int32) (y14_11 : Int32) : y_X12_readAnd_6_14 h0_size h0_limit F_h0_tape F_h0_now F_h0_name (n14 + 1) y14_1 y14_2 y14_3 y14_4 y14_5 y14_6 y14_7 y14_8 y14_9 y14_11 = (
  lt1 (y_X12_isWord_16 y14_3 y14_8) fun (r_243 : Int32) =>
  if (r_243 : Int32) = 0 then (
   (1, y14_1, y14_2, y14_3, y14_4, y14_5, y14_6, y14_7, y14_8, y14_9, y14_11)
  ) else (
   lt6 (y_X12_go h0_size h0_limit y14_1 y14_4 y14_5 y14_8 F_h0_tape) fun (u_252 : Int32) (u_253 : Int32) (u_254 : Int32) (u_255 : Int32) (u_256 : Int32) (u_257 : Int64) =>
   lt11 (y_X12_readSaid_6 h0_size h0_limit u_252 u_253 u_254 u_255 u_256 y14_6 y14_7 u_257 y14_9 y14_11 F_h0_tape F_h0_now F_h0_name) fun (r_264 : Int32) (u_269 : Int32) (u_270 : Int32) (u_271 : Int32) (u_272 : Int32) (u_273 : Int32) (u_274 : Int32) (u_275 : Int32) (u_276 : Int64) (u_277 : Int32) (u_279 : Int32) =>
   if (r_264 : Int32) = 0 then (
    (0, u_269, u_270, u_271, u_272, u_273, u_274, u_275, u_276, u_277, u_279)
   ) else (
    y_X12_readAnd_6_14 h0_size h0_limit F_h0_tape F_h0_now F_h0_name n14 u_269 u_270 u_271 u_272 u_273 u_274 u_275 u_276 u_277 u_279
   )
  )) := rfl
def y_X12_readAnd_6 (h0_size : Int32) (h0_limit : Int32) (h0_to : Int32) (h0_from : Int32) (h0_kind : Int32) (h0_number : Int32) (h0_sign : Int32) (h0_fault : Int32) (h0_place : Int32) (h0_word : Int64) (h0_told : Int32) (h0_onesMany : Int32) (F_h0_tape : Nat → Int32) (F_h0_now : Nat → Int32) (F_h0_name : Nat → Int64)  : Int32 × Int32 × Int32 × Int32 × Int32 × Int32 × Int32 × Int32 × Int64 × Int32 × Int32 :=
  lt11 (y_X12_readSaid_6 h0_size h0_limit h0_to h0_from h0_kind h0_number h0_sign h0_fault h0_place h0_word h0_told h0_onesMany F_h0_tape F_h0_now F_h0_name) fun (r_340 : Int32) (u_345 : Int32) (u_346 : Int32) (u_347 : Int32) (u_348 : Int32) (u_349 : Int32) (u_350 : Int32) (u_351 : Int32) (u_352 : Int64) (u_353 : Int32) (u_355 : Int32) =>
  if (r_340 : Int32) = 0 then (
   (0, u_345, u_346, u_347, u_348, u_349, u_350, u_351, u_352, u_353, u_355)
  ) else (
   y_X12_readAnd_6_14 h0_size h0_limit F_h0_tape F_h0_now F_h0_name 60 u_345 u_346 u_347 u_348 u_349 u_350 u_351 u_352 u_353 u_355
  )
theorem y_X12_readAnd_6_s (h0_size : Int32) (h0_limit : Int32) (h0_to : Int32) (h0_from : Int32) (h0_kind : Int32) (h0_number : Int32) (h0_sign : Int32) (h0_fault : Int32) (h0_place : Int32) (h0_word : Int64) (h0_told : Int32) (h0_onesMany : Int32) (F_h0_tape : Nat → Int32) (F_h0_now : Nat → Int32) (F_h0_name : Nat → Int64)  : y_X12_readAnd_6 h0_size h0_limit h0_to h0_from h0_kind h0_number h0_sign h0_fault h0_place h0_word h0_told h0_onesMany F_h0_tape F_h0_now F_h0_name = (
  lt11 (y_X12_readSaid_6 h0_size h0_limit h0_to h0_from h0_kind h0_number h0_sign h0_fault h0_place h0_word h0_told h0_onesMany F_h0_tape F_h0_now F_h0_name) fun (r_340 : Int32) (u_345 : Int32) (u_346 : Int32) (u_347 : Int32) (u_348 : Int32) (u_349 : Int32) (u_350 : Int32) (u_351 : Int32) (u_352 : Int64) (u_353 : Int32) (u_355 : Int32) =>
  if (r_340 : Int32) = 0 then (
   (0, u_345, u_346, u_347, u_348, u_349, u_350, u_351, u_352, u_353, u_355)
  ) else (
   y_X12_readAnd_6_14 h0_size h0_limit F_h0_tape F_h0_now F_h0_name 60 u_345 u_346 u_347 u_348 u_349 u_350 u_351 u_352 u_353 u_355
  )) := rfl
def y_X12_readOr_6_14 (h0_size : Int32) (h0_limit : Int32) (F_h0_tape : Nat → Int32) (F_h0_now : Nat → Int32) (F_h0_name : Nat → Int64) : Nat → Int32 → Int32 → Int32 → Int32 → Int32 → Int32 → Int32 → Int64 → Int32 → Int32 → (Int32 × Int32 × Int32 × Int32 × Int32 × Int32 × Int32 × Int32 × Int64 × Int32 × Int32)
 | 0, _, _, _, _, _, _, _, _, _, _ => (0, 0, 0, 0, 0, 0, 0, 0, 0, 0, 0)
 | n14 + 1, y14_1, y14_2, y14_3, y14_4, y14_5, y14_6, y14_7, y14_8, y14_9, y14_11 =>
  lt1 (y_X12_isWord_15 y14_3 y14_8) fun (r_243 : Int32) =>
  if (r_243 : Int32) = 0 then (
   (1, y14_1, y14_2, y14_3, y14_4, y14_5, y14_6, y14_7, y14_8, y14_9, y14_11)
  ) else (
   lt6 (y_X12_go h0_size h0_limit y14_1 y14_4 y14_5 y14_8 F_h0_tape) fun (u_252 : Int32) (u_253 : Int32) (u_254 : Int32) (u_255 : Int32) (u_256 : Int32) (u_257 : Int64) =>
   lt11 (y_X12_readAnd_6 h0_size h0_limit u_252 u_253 u_254 u_255 u_256 y14_6 y14_7 u_257 y14_9 y14_11 F_h0_tape F_h0_now F_h0_name) fun (r_264 : Int32) (u_269 : Int32) (u_270 : Int32) (u_271 : Int32) (u_272 : Int32) (u_273 : Int32) (u_274 : Int32) (u_275 : Int32) (u_276 : Int64) (u_277 : Int32) (u_279 : Int32) =>
   if (r_264 : Int32) = 0 then (
    (0, u_269, u_270, u_271, u_272, u_273, u_274, u_275, u_276, u_277, u_279)
   ) else (
    y_X12_readOr_6_14 h0_size h0_limit F_h0_tape F_h0_now F_h0_name n14 u_269 u_270 u_271 u_272 u_273 u_274 u_275 u_276 u_277 u_279
   )
  )
theorem y_X12_readOr_6_14_s (h0_size : Int32) (h0_limit : Int32) (F_h0_tape : Nat → Int32) (F_h0_now : Nat → Int32) (F_h0_name : Nat → Int64) (n14 : Nat) (y14_1 : Int32) (y14_2 : Int32) (y14_3 : Int32) (y14_4 : Int32) (y14_5 : Int32) (y14_6 : Int32) (y14_7 : Int32) (y14_8 : Int64) (y14_9 : Int32) (y14_11 : Int32) : y_X12_readOr_6_14 h0_size h0_limit F_h0_tape F_h0_now F_h0_name (n14 + 1) y14_1 y14_2 y14_3 y14_4 y14_5 y14_6 y14_7 y14_8 y14_9 y14_11 = (
  lt1 (y_X12_isWord_15 y14_3 y14_8) fun (r_243 : Int32) =>
  if (r_243 : Int32) = 0 then (
   (1, y14_1, y14_2, y14_3, y14_4, y14_5, y14_6, y14_7, y14_8, y14_9, y14_11)
  ) else (
   lt6 (y_X12_go h0_size h0_limit y14_1 y14_4 y14_5 y14_8 F_h0_tape) fun (u_252 : Int32) (u_253 : Int32) (u_254 : Int32) (u_255 : Int32) (u_256 : Int32) (u_257 : Int64) =>
   lt11 (y_X12_readAnd_6 h0_size h0_limit u_252 u_253 u_254 u_255 u_256 y14_6 y14_7 u_257 y14_9 y14_11 F_h0_tape F_h0_now F_h0_name) fun (r_264 : Int32) (u_269 : Int32) (u_270 : Int32) (u_271 : Int32) (u_272 : Int32) (u_273 : Int32) (u_274 : Int32) (u_275 : Int32) (u_276 : Int64) (u_277 : Int32) (u_279 : Int32) =>
   if (r_264 : Int32) = 0 then (
    (0, u_269, u_270, u_271, u_272, u_273, u_274, u_275, u_276, u_277, u_279)
   ) else (
    y_X12_readOr_6_14 h0_size h0_limit F_h0_tape F_h0_now F_h0_name n14 u_269 u_270 u_271 u_272 u_273 u_274 u_275 u_276 u_277 u_279
   )
  )) := rfl
def y_X12_readOr_6 (h0_size : Int32) (h0_limit : Int32) (h0_to : Int32) (h0_from : Int32) (h0_kind : Int32) (h0_number : Int32) (h0_sign : Int32) (h0_fault : Int32) (h0_place : Int32) (h0_word : Int64) (h0_told : Int32) (h0_onesMany : Int32) (F_h0_tape : Nat → Int32) (F_h0_now : Nat → Int32) (F_h0_name : Nat → Int64)  : Int32 × Int32 × Int32 × Int32 × Int32 × Int32 × Int32 × Int32 × Int64 × Int32 × Int32 :=
  lt11 (y_X12_readAnd_6 h0_size h0_limit h0_to h0_from h0_kind h0_number h0_sign h0_fault h0_place h0_word h0_told h0_onesMany F_h0_tape F_h0_now F_h0_name) fun (r_340 : Int32) (u_345 : Int32) (u_346 : Int32) (u_347 : Int32) (u_348 : Int32) (u_349 : Int32) (u_350 : Int32) (u_351 : Int32) (u_352 : Int64) (u_353 : Int32) (u_355 : Int32) =>
  if (r_340 : Int32) = 0 then (
   (0, u_345, u_346, u_347, u_348, u_349, u_350, u_351, u_352, u_353, u_355)
  ) else (
   y_X12_readOr_6_14 h0_size h0_limit F_h0_tape F_h0_now F_h0_name 60 u_345 u_346 u_347 u_348 u_349 u_350 u_351 u_352 u_353 u_355
  )
theorem y_X12_readOr_6_s (h0_size : Int32) (h0_limit : Int32) (h0_to : Int32) (h0_from : Int32) (h0_kind : Int32) (h0_number : Int32) (h0_sign : Int32) (h0_fault : Int32) (h0_place : Int32) (h0_word : Int64) (h0_told : Int32) (h0_onesMany : Int32) (F_h0_tape : Nat → Int32) (F_h0_now : Nat → Int32) (F_h0_name : Nat → Int64)  : y_X12_readOr_6 h0_size h0_limit h0_to h0_from h0_kind h0_number h0_sign h0_fault h0_place h0_word h0_told h0_onesMany F_h0_tape F_h0_now F_h0_name = (
  lt11 (y_X12_readAnd_6 h0_size h0_limit h0_to h0_from h0_kind h0_number h0_sign h0_fault h0_place h0_word h0_told h0_onesMany F_h0_tape F_h0_now F_h0_name) fun (r_340 : Int32) (u_345 : Int32) (u_346 : Int32) (u_347 : Int32) (u_348 : Int32) (u_349 : Int32) (u_350 : Int32) (u_351 : Int32) (u_352 : Int64) (u_353 : Int32) (u_355 : Int32) =>
  if (r_340 : Int32) = 0 then (
   (0, u_345, u_346, u_347, u_348, u_349, u_350, u_351, u_352, u_353, u_355)
  ) else (
   y_X12_readOr_6_14 h0_size h0_limit F_h0_tape F_h0_now F_h0_name 60 u_345 u_346 u_347 u_348 u_349 u_350 u_351 u_352 u_353 u_355
  )) := rfl
def y_X12_readBracket_6 (h0_size : Int32) (h0_limit : Int32) (h0_to : Int32) (h0_from : Int32) (h0_kind : Int32) (h0_number : Int32) (h0_sign : Int32) (h0_fault : Int32) (h0_place : Int32) (h0_word : Int64) (h0_told : Int32) (h0_onesMany : Int32) (F_h0_tape : Nat → Int32) (F_h0_now : Nat → Int32) (F_h0_name : Nat → Int64)  : Int32 × Int32 × Int32 × Int32 × Int32 × Int32 × Int32 × Int32 × Int64 × Int32 × Int32 :=
  lt11 (y_X12_readOr_6 h0_size h0_limit h0_to h0_from h0_kind h0_number h0_sign h0_fault h0_place h0_word h0_told h0_onesMany F_h0_tape F_h0_now F_h0_name) fun (r_80 : Int32) (u_85 : Int32) (u_86 : Int32) (u_87 : Int32) (u_88 : Int32) (u_89 : Int32) (u_90 : Int32) (u_91 : Int32) (u_92 : Int64) (u_93 : Int32) (u_95 : Int32) =>
  if (r_80 : Int32) = 0 then (
   (0, u_85, u_86, u_87, u_88, u_89, u_90, u_91, u_92, u_93, u_95)
  ) else (
   lt1 (y_X12_isSign 41 u_87 u_89) fun (r_130 : Int32) =>
   if (r_130 : Int32) = 0 then (
    lt2 (y_X12_bad 1 u_87) fun (r_139 : Int32) (u_141 : Int32) =>
    (0, u_85, u_86, u_87, u_88, u_89, u_141, u_86, u_92, u_93, u_95)
   ) else (
    lt6 (y_X12_go h0_size h0_limit u_85 u_88 u_89 u_92 F_h0_tape) fun (u_148 : Int32) (u_149 : Int32) (u_150 : Int32) (u_151 : Int32) (u_152 : Int32) (u_153 : Int64) =>
    (1, u_148, u_149, u_150, u_151, u_152, u_90, u_91, u_153, u_93, u_95)
   )
  )
theorem y_X12_readBracket_6_s (h0_size : Int32) (h0_limit : Int32) (h0_to : Int32) (h0_from : Int32) (h0_kind : Int32) (h0_number : Int32) (h0_sign : Int32) (h0_fault : Int32) (h0_place : Int32) (h0_word : Int64) (h0_told : Int32) (h0_onesMany : Int32) (F_h0_tape : Nat → Int32) (F_h0_now : Nat → Int32) (F_h0_name : Nat → Int64)  : y_X12_readBracket_6 h0_size h0_limit h0_to h0_from h0_kind h0_number h0_sign h0_fault h0_place h0_word h0_told h0_onesMany F_h0_tape F_h0_now F_h0_name = (
  lt11 (y_X12_readOr_6 h0_size h0_limit h0_to h0_from h0_kind h0_number h0_sign h0_fault h0_place h0_word h0_told h0_onesMany F_h0_tape F_h0_now F_h0_name) fun (r_80 : Int32) (u_85 : Int32) (u_86 : Int32) (u_87 : Int32) (u_88 : Int32) (u_89 : Int32) (u_90 : Int32) (u_91 : Int32) (u_92 : Int64) (u_93 : Int32) (u_95 : Int32) =>
  if (r_80 : Int32) = 0 then (
   (0, u_85, u_86, u_87, u_88, u_89, u_90, u_91, u_92, u_93, u_95)
  ) else (
   lt1 (y_X12_isSign 41 u_87 u_89) fun (r_130 : Int32) =>
   if (r_130 : Int32) = 0 then (
    lt2 (y_X12_bad 1 u_87) fun (r_139 : Int32) (u_141 : Int32) =>
    (0, u_85, u_86, u_87, u_88, u_89, u_141, u_86, u_92, u_93, u_95)
   ) else (
    lt6 (y_X12_go h0_size h0_limit u_85 u_88 u_89 u_92 F_h0_tape) fun (u_148 : Int32) (u_149 : Int32) (u_150 : Int32) (u_151 : Int32) (u_152 : Int32) (u_153 : Int64) =>
    (1, u_148, u_149, u_150, u_151, u_152, u_90, u_91, u_153, u_93, u_95)
   )
  )) := rfl
def y_X12_readNot_6 (h0_size : Int32) (h0_limit : Int32) (h0_to : Int32) (h0_from : Int32) (h0_kind : Int32) (h0_number : Int32) (h0_sign : Int32) (h0_fault : Int32) (h0_place : Int32) (h0_word : Int64) (h0_told : Int32) (h0_onesMany : Int32) (F_h0_tape : Nat → Int32) (F_h0_now : Nat → Int32) (F_h0_name : Nat → Int64)  : Int32 × Int32 × Int32 × Int32 × Int32 × Int32 × Int32 × Int32 × Int64 × Int32 × Int32 :=
  lt11 (y_X12_readSaid_6 h0_size h0_limit h0_to h0_from h0_kind h0_number h0_sign h0_fault h0_place h0_word h0_told h0_onesMany F_h0_tape F_h0_now F_h0_name) fun (r_68 : Int32) (u_73 : Int32) (u_74 : Int32) (u_75 : Int32) (u_76 : Int32) (u_77 : Int32) (u_78 : Int32) (u_79 : Int32) (u_80 : Int64) (u_81 : Int32) (u_83 : Int32) =>
  if (r_68 : Int32) = 0 then (
   (0, u_73, u_74, u_75, u_76, u_77, u_78, u_79, u_80, u_81, u_83)
  ) else (
   (1, u_73, u_74, u_75, u_76, u_77, u_78, u_79, u_80, u_81, u_83)
  )
theorem y_X12_readNot_6_s (h0_size : Int32) (h0_limit : Int32) (h0_to : Int32) (h0_from : Int32) (h0_kind : Int32) (h0_number : Int32) (h0_sign : Int32) (h0_fault : Int32) (h0_place : Int32) (h0_word : Int64) (h0_told : Int32) (h0_onesMany : Int32) (F_h0_tape : Nat → Int32) (F_h0_now : Nat → Int32) (F_h0_name : Nat → Int64)  : y_X12_readNot_6 h0_size h0_limit h0_to h0_from h0_kind h0_number h0_sign h0_fault h0_place h0_word h0_told h0_onesMany F_h0_tape F_h0_now F_h0_name = (
  lt11 (y_X12_readSaid_6 h0_size h0_limit h0_to h0_from h0_kind h0_number h0_sign h0_fault h0_place h0_word h0_told h0_onesMany F_h0_tape F_h0_now F_h0_name) fun (r_68 : Int32) (u_73 : Int32) (u_74 : Int32) (u_75 : Int32) (u_76 : Int32) (u_77 : Int32) (u_78 : Int32) (u_79 : Int32) (u_80 : Int64) (u_81 : Int32) (u_83 : Int32) =>
  if (r_68 : Int32) = 0 then (
   (0, u_73, u_74, u_75, u_76, u_77, u_78, u_79, u_80, u_81, u_83)
  ) else (
   (1, u_73, u_74, u_75, u_76, u_77, u_78, u_79, u_80, u_81, u_83)
  )) := rfl
def y_X12_readSaid_5_10 (h0_size : Int32) (h0_limit : Int32) (h0_to : Int32) (h0_from : Int32) (h0_kind : Int32) (h0_number : Int32) (h0_sign : Int32) (h0_fault : Int32) (h0_place : Int32) (h0_word : Int64) (h0_told : Int32) (h0_onesMany : Int32) (F_h0_tape : Nat → Int32) (F_h0_now : Nat → Int32) (F_h0_name : Nat → Int64) : Nat → Int32 → Int32 → (Int32 × Int32 × Int32 × Int32 × Int32 × Int32 × Int32 × Int32 × Int64 × Int32 × Int32)
 | 0, _, _ => (0, 0, 0, 0, 0, 0, 0, 0, 0, 0, 0)
 | n10 + 1, y10_0, y10_1 =>
  if (25 : Int32) < y10_1 then (
   if (y10_0 : Int32) = 0 then (
    lt2 (y_X12_bad 1 h0_kind) fun (r_3170 : Int32) (u_3172 : Int32) =>
    (0, h0_to, h0_from, h0_kind, h0_number, h0_sign, u_3172, h0_from, h0_word, h0_told, h0_onesMany)
   ) else (
    if (h0_onesMany : Int32) = 20 then (
     lt2 (y_X12_bad 4 h0_kind) fun (r_3090 : Int32) (u_3092 : Int32) =>
     (0, h0_to, h0_from, h0_kind, h0_number, h0_sign, u_3092, h0_from, h0_word, h0_told, h0_onesMany)
    ) else (
     lt1 ((h0_onesMany : Int32) + 1) fun (x_3096 : Int32) =>
     lt6 (y_X12_go h0_size h0_limit h0_to h0_number h0_sign h0_word F_h0_tape) fun (u_3101 : Int32) (u_3102 : Int32) (u_3103 : Int32) (u_3104 : Int32) (u_3105 : Int32) (u_3106 : Int64) =>
     lt11 (y_X12_readBracket_6 h0_size h0_limit u_3101 u_3102 u_3103 u_3104 u_3105 h0_fault h0_place u_3106 h0_told x_3096 F_h0_tape F_h0_now F_h0_name) fun (r_3113 : Int32) (u_3118 : Int32) (u_3119 : Int32) (u_3120 : Int32) (u_3121 : Int32) (u_3122 : Int32) (u_3123 : Int32) (u_3124 : Int32) (u_3125 : Int64) (u_3126 : Int32) (u_3128 : Int32) =>
     if (r_3113 : Int32) = 0 then (
      (0, u_3118, u_3119, u_3120, u_3121, u_3122, u_3123, u_3124, u_3125, u_3126, u_3128)
     ) else (
      (1, u_3118, u_3119, u_3120, u_3121, u_3122, u_3123, u_3124, u_3125, u_3126, u_3128)
     )
    )
   )
  ) else (
   lt1 (y_X12_isWord y10_1 h0_kind h0_word) fun (r_3177 : Int32) =>
   if (r_3177 : Int32) = 0 then (
    lt1 (y10_1 + 1) fun (x_3184 : Int32) =>
    y_X12_readSaid_5_10 h0_size h0_limit h0_to h0_from h0_kind h0_number h0_sign h0_fault h0_place h0_word h0_told h0_onesMany F_h0_tape F_h0_now F_h0_name n10 y10_0 x_3184
   ) else (
    if (y10_0 : Int32) = 0 then (
     if (h0_onesMany : Int32) = 20 then (
      lt2 (y_X12_bad 4 h0_kind) fun (r_3277 : Int32) (u_3279 : Int32) =>
      (0, h0_to, h0_from, h0_kind, h0_number, h0_sign, u_3279, h0_from, h0_word, h0_told, h0_onesMany)
     ) else (
      lt1 ((h0_onesMany : Int32) + 1) fun (x_3283 : Int32) =>
      lt6 (y_X12_go h0_size h0_limit h0_to h0_number h0_sign h0_word F_h0_tape) fun (u_3288 : Int32) (u_3289 : Int32) (u_3290 : Int32) (u_3291 : Int32) (u_3292 : Int32) (u_3293 : Int64) =>
      if (y10_1 : Int32) = 17 then (
       lt11 (y_X12_readNot_6 h0_size h0_limit u_3288 u_3289 u_3290 u_3291 u_3292 h0_fault h0_place u_3293 h0_told x_3283 F_h0_tape F_h0_now F_h0_name) fun (r_3432 : Int32) (u_3437 : Int32) (u_3438 : Int32) (u_3439 : Int32) (u_3440 : Int32) (u_3441 : Int32) (u_3442 : Int32) (u_3443 : Int32) (u_3444 : Int64) (u_3445 : Int32) (u_3447 : Int32) =>
       if (r_3432 : Int32) = 0 then (
        (0, u_3437, u_3438, u_3439, u_3440, u_3441, u_3442, u_3443, u_3444, u_3445, u_3447)
       ) else (
        (1, u_3437, u_3438, u_3439, u_3440, u_3441, u_3442, u_3443, u_3444, u_3445, u_3447)
       )
      ) else (
       if (21 : Int32) ≤ y10_1 then (
        if (22 : Int32) ≤ y10_1 then (
         lt10 (y_X12_readCompare y10_1 h0_size h0_limit u_3288 u_3289 u_3290 u_3291 u_3292 h0_fault h0_place u_3293 h0_told F_h0_tape) fun (r_3308 : Int32) (u_3310 : Int32) (u_3311 : Int32) (u_3312 : Int32) (u_3313 : Int32) (u_3314 : Int32) (u_3315 : Int32) (u_3316 : Int32) (u_3317 : Int64) (u_3318 : Int32) =>
         if (r_3308 : Int32) = 0 then (
          (0, u_3310, u_3311, u_3312, u_3313, u_3314, u_3315, u_3316, u_3317, u_3318, x_3283)
         ) else (
          (1, u_3310, u_3311, u_3312, u_3313, u_3314, u_3315, u_3316, u_3317, u_3318, x_3283)
         )
        ) else (
         lt10 (y_X12_readOf y10_1 h0_size h0_limit u_3288 u_3289 u_3290 u_3291 u_3292 h0_fault h0_place u_3293 h0_told F_h0_now F_h0_name F_h0_tape) fun (r_3361 : Int32) (u_3363 : Int32) (u_3364 : Int32) (u_3365 : Int32) (u_3366 : Int32) (u_3367 : Int32) (u_3368 : Int32) (u_3369 : Int32) (u_3370 : Int64) (u_3371 : Int32) =>
         if (r_3361 : Int32) = 0 then (
          (0, u_3363, u_3364, u_3365, u_3366, u_3367, u_3368, u_3369, u_3370, u_3371, x_3283)
         ) else (
          (1, u_3363, u_3364, u_3365, u_3366, u_3367, u_3368, u_3369, u_3370, u_3371, x_3283)
         )
        )
       ) else (
        lt1 ((50 : Int32) + y10_1) fun (x_3412 : Int32) =>
        (1, u_3288, u_3289, u_3290, u_3291, u_3292, h0_fault, h0_place, u_3293, h0_told, x_3283)
       )
      )
     )
    ) else (
     if (h0_onesMany : Int32) = 20 then (
      lt2 (y_X12_bad 4 h0_kind) fun (r_3193 : Int32) (u_3195 : Int32) =>
      (0, h0_to, h0_from, h0_kind, h0_number, h0_sign, u_3195, h0_from, h0_word, h0_told, h0_onesMany)
     ) else (
      lt1 ((h0_onesMany : Int32) + 1) fun (x_3199 : Int32) =>
      lt6 (y_X12_go h0_size h0_limit h0_to h0_number h0_sign h0_word F_h0_tape) fun (u_3204 : Int32) (u_3205 : Int32) (u_3206 : Int32) (u_3207 : Int32) (u_3208 : Int32) (u_3209 : Int64) =>
      lt11 (y_X12_readBracket_6 h0_size h0_limit u_3204 u_3205 u_3206 u_3207 u_3208 h0_fault h0_place u_3209 h0_told x_3199 F_h0_tape F_h0_now F_h0_name) fun (r_3216 : Int32) (u_3221 : Int32) (u_3222 : Int32) (u_3223 : Int32) (u_3224 : Int32) (u_3225 : Int32) (u_3226 : Int32) (u_3227 : Int32) (u_3228 : Int64) (u_3229 : Int32) (u_3231 : Int32) =>
      if (r_3216 : Int32) = 0 then (
       (0, u_3221, u_3222, u_3223, u_3224, u_3225, u_3226, u_3227, u_3228, u_3229, u_3231)
      ) else (
       (1, u_3221, u_3222, u_3223, u_3224, u_3225, u_3226, u_3227, u_3228, u_3229, u_3231)
      )
     )
    )
   )
  )
theorem y_X12_readSaid_5_10_s (h0_size : Int32) (h0_limit : Int32) (h0_to : Int32) (h0_from : Int32) (h0_kind : Int32) (h0_number : Int32) (h0_sign : Int32) (h0_fault : Int32) (h0_place : Int32) (h0_word : Int64) (h0_told : Int32) (h0_onesMany : Int32) (F_h0_tape : Nat → Int32) (F_h0_now : Nat → Int32) (F_h0_name : Nat → Int64) (n10 : Nat) (y10_0 : Int32) (y10_1 : Int32) : y_X12_readSaid_5_10 h0_size h0_limit h0_to h0_from h0_kind h0_number h0_sign h0_fault h0_place h0_word h0_told h0_onesMany F_h0_tape F_h0_now F_h0_name (n10 + 1) y10_0 y10_1 = (
  if (25 : Int32) < y10_1 then (
   if (y10_0 : Int32) = 0 then (
    lt2 (y_X12_bad 1 h0_kind) fun (r_3170 : Int32) (u_3172 : Int32) =>
    (0, h0_to, h0_from, h0_kind, h0_number, h0_sign, u_3172, h0_from, h0_word, h0_told, h0_onesMany)
   ) else (
    if (h0_onesMany : Int32) = 20 then (
     lt2 (y_X12_bad 4 h0_kind) fun (r_3090 : Int32) (u_3092 : Int32) =>
     (0, h0_to, h0_from, h0_kind, h0_number, h0_sign, u_3092, h0_from, h0_word, h0_told, h0_onesMany)
    ) else (
     lt1 ((h0_onesMany : Int32) + 1) fun (x_3096 : Int32) =>
     lt6 (y_X12_go h0_size h0_limit h0_to h0_number h0_sign h0_word F_h0_tape) fun (u_3101 : Int32) (u_3102 : Int32) (u_3103 : Int32) (u_3104 : Int32) (u_3105 : Int32) (u_3106 : Int64) =>
     lt11 (y_X12_readBracket_6 h0_size h0_limit u_3101 u_3102 u_3103 u_3104 u_3105 h0_fault h0_place u_3106 h0_told x_3096 F_h0_tape F_h0_now F_h0_name) fun (r_3113 : Int32) (u_3118 : Int32) (u_3119 : Int32) (u_3120 : Int32) (u_3121 : Int32) (u_3122 : Int32) (u_3123 : Int32) (u_3124 : Int32) (u_3125 : Int64) (u_3126 : Int32) (u_3128 : Int32) =>
     if (r_3113 : Int32) = 0 then (
      (0, u_3118, u_3119, u_3120, u_3121, u_3122, u_3123, u_3124, u_3125, u_3126, u_3128)
     ) else (
      (1, u_3118, u_3119, u_3120, u_3121, u_3122, u_3123, u_3124, u_3125, u_3126, u_3128)
     )
    )
   )
  ) else (
   lt1 (y_X12_isWord y10_1 h0_kind h0_word) fun (r_3177 : Int32) =>
   if (r_3177 : Int32) = 0 then (
    lt1 (y10_1 + 1) fun (x_3184 : Int32) =>
    y_X12_readSaid_5_10 h0_size h0_limit h0_to h0_from h0_kind h0_number h0_sign h0_fault h0_place h0_word h0_told h0_onesMany F_h0_tape F_h0_now F_h0_name n10 y10_0 x_3184
   ) else (
    if (y10_0 : Int32) = 0 then (
     if (h0_onesMany : Int32) = 20 then (
      lt2 (y_X12_bad 4 h0_kind) fun (r_3277 : Int32) (u_3279 : Int32) =>
      (0, h0_to, h0_from, h0_kind, h0_number, h0_sign, u_3279, h0_from, h0_word, h0_told, h0_onesMany)
     ) else (
      lt1 ((h0_onesMany : Int32) + 1) fun (x_3283 : Int32) =>
      lt6 (y_X12_go h0_size h0_limit h0_to h0_number h0_sign h0_word F_h0_tape) fun (u_3288 : Int32) (u_3289 : Int32) (u_3290 : Int32) (u_3291 : Int32) (u_3292 : Int32) (u_3293 : Int64) =>
      if (y10_1 : Int32) = 17 then (
       lt11 (y_X12_readNot_6 h0_size h0_limit u_3288 u_3289 u_3290 u_3291 u_3292 h0_fault h0_place u_3293 h0_told x_3283 F_h0_tape F_h0_now F_h0_name) fun (r_3432 : Int32) (u_3437 : Int32) (u_3438 : Int32) (u_3439 : Int32) (u_3440 : Int32) (u_3441 : Int32) (u_3442 : Int32) (u_3443 : Int32) (u_3444 : Int64) (u_3445 : Int32) (u_3447 : Int32) =>
       if (r_3432 : Int32) = 0 then (
        (0, u_3437, u_3438, u_3439, u_3440, u_3441, u_3442, u_3443, u_3444, u_3445, u_3447)
       ) else (
        (1, u_3437, u_3438, u_3439, u_3440, u_3441, u_3442, u_3443, u_3444, u_3445, u_3447)
       )
      ) else (
       if (21 : Int32) ≤ y10_1 then (
        if (22 : Int32) ≤ y10_1 then (
         lt10 (y_X12_readCompare y10_1 h0_size h0_limit u_3288 u_3289 u_3290 u_3291 u_3292 h0_fault h0_place u_3293 h0_told F_h0_tape) fun (r_3308 : Int32) (u_3310 : Int32) (u_3311 : Int32) (u_3312 : Int32) (u_3313 : Int32) (u_3314 : Int32) (u_3315 : Int32) (u_3316 : Int32) (u_3317 : Int64) (u_3318 : Int32) =>
         if (r_3308 : Int32) = 0 then (
          (0, u_3310, u_3311, u_3312, u_3313, u_3314, u_3315, u_3316, u_3317, u_3318, x_3283)
         ) else (
          (1, u_3310, u_3311, u_3312, u_3313, u_3314, u_3315, u_3316, u_3317, u_3318, x_3283)
         )
        ) else (
         lt10 (y_X12_readOf y10_1 h0_size h0_limit u_3288 u_3289 u_3290 u_3291 u_3292 h0_fault h0_place u_3293 h0_told F_h0_now F_h0_name F_h0_tape) fun (r_3361 : Int32) (u_3363 : Int32) (u_3364 : Int32) (u_3365 : Int32) (u_3366 : Int32) (u_3367 : Int32) (u_3368 : Int32) (u_3369 : Int32) (u_3370 : Int64) (u_3371 : Int32) =>
         if (r_3361 : Int32) = 0 then (
          (0, u_3363, u_3364, u_3365, u_3366, u_3367, u_3368, u_3369, u_3370, u_3371, x_3283)
         ) else (
          (1, u_3363, u_3364, u_3365, u_3366, u_3367, u_3368, u_3369, u_3370, u_3371, x_3283)
         )
        )
       ) else (
        lt1 ((50 : Int32) + y10_1) fun (x_3412 : Int32) =>
        (1, u_3288, u_3289, u_3290, u_3291, u_3292, h0_fault, h0_place, u_3293, h0_told, x_3283)
       )
      )
     )
    ) else (
     if (h0_onesMany : Int32) = 20 then (
      lt2 (y_X12_bad 4 h0_kind) fun (r_3193 : Int32) (u_3195 : Int32) =>
      (0, h0_to, h0_from, h0_kind, h0_number, h0_sign, u_3195, h0_from, h0_word, h0_told, h0_onesMany)
     ) else (
      lt1 ((h0_onesMany : Int32) + 1) fun (x_3199 : Int32) =>
      lt6 (y_X12_go h0_size h0_limit h0_to h0_number h0_sign h0_word F_h0_tape) fun (u_3204 : Int32) (u_3205 : Int32) (u_3206 : Int32) (u_3207 : Int32) (u_3208 : Int32) (u_3209 : Int64) =>
      lt11 (y_X12_readBracket_6 h0_size h0_limit u_3204 u_3205 u_3206 u_3207 u_3208 h0_fault h0_place u_3209 h0_told x_3199 F_h0_tape F_h0_now F_h0_name) fun (r_3216 : Int32) (u_3221 : Int32) (u_3222 : Int32) (u_3223 : Int32) (u_3224 : Int32) (u_3225 : Int32) (u_3226 : Int32) (u_3227 : Int32) (u_3228 : Int64) (u_3229 : Int32) (u_3231 : Int32) =>
      if (r_3216 : Int32) = 0 then (
       (0, u_3221, u_3222, u_3223, u_3224, u_3225, u_3226, u_3227, u_3228, u_3229, u_3231)
      ) else (
       (1, u_3221, u_3222, u_3223, u_3224, u_3225, u_3226, u_3227, u_3228, u_3229, u_3231)
      )
     )
    )
   )
  )) := rfl
def y_X12_readSaid_5 (h0_size : Int32) (h0_limit : Int32) (h0_to : Int32) (h0_from : Int32) (h0_kind : Int32) (h0_number : Int32) (h0_sign : Int32) (h0_fault : Int32) (h0_place : Int32) (h0_word : Int64) (h0_told : Int32) (h0_onesMany : Int32) (F_h0_tape : Nat → Int32) (F_h0_now : Nat → Int32) (F_h0_name : Nat → Int64)  : Int32 × Int32 × Int32 × Int32 × Int32 × Int32 × Int32 × Int32 × Int64 × Int32 × Int32 :=
  lt1 (y_X12_isSign 40 h0_kind h0_sign) fun (r_3488 : Int32) =>
  if (r_3488 : Int32) = 0 then (
   y_X12_readSaid_5_10 h0_size h0_limit h0_to h0_from h0_kind h0_number h0_sign h0_fault h0_place h0_word h0_told h0_onesMany F_h0_tape F_h0_now F_h0_name 10 0 17
  ) else (
   y_X12_readSaid_5_10 h0_size h0_limit h0_to h0_from h0_kind h0_number h0_sign h0_fault h0_place h0_word h0_told h0_onesMany F_h0_tape F_h0_now F_h0_name 10 1 17
  )
theorem y_X12_readSaid_5_s (h0_size : Int32) (h0_limit : Int32) (h0_to : Int32) (h0_from : Int32) (h0_kind : Int32) (h0_number : Int32) (h0_sign : Int32) (h0_fault : Int32) (h0_place : Int32) (h0_word : Int64) (h0_told : Int32) (h0_onesMany : Int32) (F_h0_tape : Nat → Int32) (F_h0_now : Nat → Int32) (F_h0_name : Nat → Int64)  : y_X12_readSaid_5 h0_size h0_limit h0_to h0_from h0_kind h0_number h0_sign h0_fault h0_place h0_word h0_told h0_onesMany F_h0_tape F_h0_now F_h0_name = (
  lt1 (y_X12_isSign 40 h0_kind h0_sign) fun (r_3488 : Int32) =>
  if (r_3488 : Int32) = 0 then (
   y_X12_readSaid_5_10 h0_size h0_limit h0_to h0_from h0_kind h0_number h0_sign h0_fault h0_place h0_word h0_told h0_onesMany F_h0_tape F_h0_now F_h0_name 10 0 17
  ) else (
   y_X12_readSaid_5_10 h0_size h0_limit h0_to h0_from h0_kind h0_number h0_sign h0_fault h0_place h0_word h0_told h0_onesMany F_h0_tape F_h0_now F_h0_name 10 1 17
  )) := rfl
def y_X12_readAnd_5_14 (h0_size : Int32) (h0_limit : Int32) (F_h0_tape : Nat → Int32) (F_h0_now : Nat → Int32) (F_h0_name : Nat → Int64) : Nat → Int32 → Int32 → Int32 → Int32 → Int32 → Int32 → Int32 → Int64 → Int32 → Int32 → (Int32 × Int32 × Int32 × Int32 × Int32 × Int32 × Int32 × Int32 × Int64 × Int32 × Int32)
 | 0, _, _, _, _, _, _, _, _, _, _ => (0, 0, 0, 0, 0, 0, 0, 0, 0, 0, 0)
 | n14 + 1, y14_1, y14_2, y14_3, y14_4, y14_5, y14_6, y14_7, y14_8, y14_9, y14_11 =>
  lt1 (y_X12_isWord_16 y14_3 y14_8) fun (r_243 : Int32) =>
  if (r_243 : Int32) = 0 then (
   (1, y14_1, y14_2, y14_3, y14_4, y14_5, y14_6, y14_7, y14_8, y14_9, y14_11)
  ) else (
   lt6 (y_X12_go h0_size h0_limit y14_1 y14_4 y14_5 y14_8 F_h0_tape) fun (u_252 : Int32) (u_253 : Int32) (u_254 : Int32) (u_255 : Int32) (u_256 : Int32) (u_257 : Int64) =>
   lt11 (y_X12_readSaid_5 h0_size h0_limit u_252 u_253 u_254 u_255 u_256 y14_6 y14_7 u_257 y14_9 y14_11 F_h0_tape F_h0_now F_h0_name) fun (r_264 : Int32) (u_269 : Int32) (u_270 : Int32) (u_271 : Int32) (u_272 : Int32) (u_273 : Int32) (u_274 : Int32) (u_275 : Int32) (u_276 : Int64) (u_277 : Int32) (u_279 : Int32) =>
   if (r_264 : Int32) = 0 then (
    (0, u_269, u_270, u_271, u_272, u_273, u_274, u_275, u_276, u_277, u_279)
   ) else (
    y_X12_readAnd_5_14 h0_size h0_limit F_h0_tape F_h0_now F_h0_name n14 u_269 u_270 u_271 u_272 u_273 u_274 u_275 u_276 u_277 u_279
   )
  )
theorem y_X12_readAnd_5_14_s (h0_size : Int32) (h0_limit : Int32) (F_h0_tape : Nat → Int32) (F_h0_now : Nat → Int32) (F_h0_name : Nat → Int64) (n14 : Nat) (y14_1 : Int32) (y14_2 : Int32) (y14_3 : Int32) (y14_4 : Int32) (y14_5 : Int32) (y14_6 : Int32) (y14_7 : Int32) (y14_8 : Int64) (y14_9 : Int32) (y14_11 : Int32) : y_X12_readAnd_5_14 h0_size h0_limit F_h0_tape F_h0_now F_h0_name (n14 + 1) y14_1 y14_2 y14_3 y14_4 y14_5 y14_6 y14_7 y14_8 y14_9 y14_11 = (
  lt1 (y_X12_isWord_16 y14_3 y14_8) fun (r_243 : Int32) =>
  if (r_243 : Int32) = 0 then (
   (1, y14_1, y14_2, y14_3, y14_4, y14_5, y14_6, y14_7, y14_8, y14_9, y14_11)
  ) else (
   lt6 (y_X12_go h0_size h0_limit y14_1 y14_4 y14_5 y14_8 F_h0_tape) fun (u_252 : Int32) (u_253 : Int32) (u_254 : Int32) (u_255 : Int32) (u_256 : Int32) (u_257 : Int64) =>
   lt11 (y_X12_readSaid_5 h0_size h0_limit u_252 u_253 u_254 u_255 u_256 y14_6 y14_7 u_257 y14_9 y14_11 F_h0_tape F_h0_now F_h0_name) fun (r_264 : Int32) (u_269 : Int32) (u_270 : Int32) (u_271 : Int32) (u_272 : Int32) (u_273 : Int32) (u_274 : Int32) (u_275 : Int32) (u_276 : Int64) (u_277 : Int32) (u_279 : Int32) =>
   if (r_264 : Int32) = 0 then (
    (0, u_269, u_270, u_271, u_272, u_273, u_274, u_275, u_276, u_277, u_279)
   ) else (
    y_X12_readAnd_5_14 h0_size h0_limit F_h0_tape F_h0_now F_h0_name n14 u_269 u_270 u_271 u_272 u_273 u_274 u_275 u_276 u_277 u_279
   )
  )) := rfl
def y_X12_readAnd_5 (h0_size : Int32) (h0_limit : Int32) (h0_to : Int32) (h0_from : Int32) (h0_kind : Int32) (h0_number : Int32) (h0_sign : Int32) (h0_fault : Int32) (h0_place : Int32) (h0_word : Int64) (h0_told : Int32) (h0_onesMany : Int32) (F_h0_tape : Nat → Int32) (F_h0_now : Nat → Int32) (F_h0_name : Nat → Int64)  : Int32 × Int32 × Int32 × Int32 × Int32 × Int32 × Int32 × Int32 × Int64 × Int32 × Int32 :=
  lt11 (y_X12_readSaid_5 h0_size h0_limit h0_to h0_from h0_kind h0_number h0_sign h0_fault h0_place h0_word h0_told h0_onesMany F_h0_tape F_h0_now F_h0_name) fun (r_340 : Int32) (u_345 : Int32) (u_346 : Int32) (u_347 : Int32) (u_348 : Int32) (u_349 : Int32) (u_350 : Int32) (u_351 : Int32) (u_352 : Int64) (u_353 : Int32) (u_355 : Int32) =>
  if (r_340 : Int32) = 0 then (
   (0, u_345, u_346, u_347, u_348, u_349, u_350, u_351, u_352, u_353, u_355)
  ) else (
   y_X12_readAnd_5_14 h0_size h0_limit F_h0_tape F_h0_now F_h0_name 60 u_345 u_346 u_347 u_348 u_349 u_350 u_351 u_352 u_353 u_355
  )
theorem y_X12_readAnd_5_s (h0_size : Int32) (h0_limit : Int32) (h0_to : Int32) (h0_from : Int32) (h0_kind : Int32) (h0_number : Int32) (h0_sign : Int32) (h0_fault : Int32) (h0_place : Int32) (h0_word : Int64) (h0_told : Int32) (h0_onesMany : Int32) (F_h0_tape : Nat → Int32) (F_h0_now : Nat → Int32) (F_h0_name : Nat → Int64)  : y_X12_readAnd_5 h0_size h0_limit h0_to h0_from h0_kind h0_number h0_sign h0_fault h0_place h0_word h0_told h0_onesMany F_h0_tape F_h0_now F_h0_name = (
  lt11 (y_X12_readSaid_5 h0_size h0_limit h0_to h0_from h0_kind h0_number h0_sign h0_fault h0_place h0_word h0_told h0_onesMany F_h0_tape F_h0_now F_h0_name) fun (r_340 : Int32) (u_345 : Int32) (u_346 : Int32) (u_347 : Int32) (u_348 : Int32) (u_349 : Int32) (u_350 : Int32) (u_351 : Int32) (u_352 : Int64) (u_353 : Int32) (u_355 : Int32) =>
  if (r_340 : Int32) = 0 then (
   (0, u_345, u_346, u_347, u_348, u_349, u_350, u_351, u_352, u_353, u_355)
  ) else (
   y_X12_readAnd_5_14 h0_size h0_limit F_h0_tape F_h0_now F_h0_name 60 u_345 u_346 u_347 u_348 u_349 u_350 u_351 u_352 u_353 u_355
  )) := rfl
def y_X12_readOr_5_14 (h0_size : Int32) (h0_limit : Int32) (F_h0_tape : Nat → Int32) (F_h0_now : Nat → Int32) (F_h0_name : Nat → Int64) : Nat → Int32 → Int32 → Int32 → Int32 → Int32 → Int32 → Int32 → Int64 → Int32 → Int32 → (Int32 × Int32 × Int32 × Int32 × Int32 × Int32 × Int32 × Int32 × Int64 × Int32 × Int32)
 | 0, _, _, _, _, _, _, _, _, _, _ => (0, 0, 0, 0, 0, 0, 0, 0, 0, 0, 0)
 | n14 + 1, y14_1, y14_2, y14_3, y14_4, y14_5, y14_6, y14_7, y14_8, y14_9, y14_11 =>
  lt1 (y_X12_isWord_15 y14_3 y14_8) fun (r_243 : Int32) =>
  if (r_243 : Int32) = 0 then (
   (1, y14_1, y14_2, y14_3, y14_4, y14_5, y14_6, y14_7, y14_8, y14_9, y14_11)
  ) else (
   lt6 (y_X12_go h0_size h0_limit y14_1 y14_4 y14_5 y14_8 F_h0_tape) fun (u_252 : Int32) (u_253 : Int32) (u_254 : Int32) (u_255 : Int32) (u_256 : Int32) (u_257 : Int64) =>
   lt11 (y_X12_readAnd_5 h0_size h0_limit u_252 u_253 u_254 u_255 u_256 y14_6 y14_7 u_257 y14_9 y14_11 F_h0_tape F_h0_now F_h0_name) fun (r_264 : Int32) (u_269 : Int32) (u_270 : Int32) (u_271 : Int32) (u_272 : Int32) (u_273 : Int32) (u_274 : Int32) (u_275 : Int32) (u_276 : Int64) (u_277 : Int32) (u_279 : Int32) =>
   if (r_264 : Int32) = 0 then (
    (0, u_269, u_270, u_271, u_272, u_273, u_274, u_275, u_276, u_277, u_279)
   ) else (
    y_X12_readOr_5_14 h0_size h0_limit F_h0_tape F_h0_now F_h0_name n14 u_269 u_270 u_271 u_272 u_273 u_274 u_275 u_276 u_277 u_279
   )
  )
theorem y_X12_readOr_5_14_s (h0_size : Int32) (h0_limit : Int32) (F_h0_tape : Nat → Int32) (F_h0_now : Nat → Int32) (F_h0_name : Nat → Int64) (n14 : Nat) (y14_1 : Int32) (y14_2 : Int32) (y14_3 : Int32) (y14_4 : Int32) (y14_5 : Int32) (y14_6 : Int32) (y14_7 : Int32) (y14_8 : Int64) (y14_9 : Int32) (y14_11 : Int32) : y_X12_readOr_5_14 h0_size h0_limit F_h0_tape F_h0_now F_h0_name (n14 + 1) y14_1 y14_2 y14_3 y14_4 y14_5 y14_6 y14_7 y14_8 y14_9 y14_11 = (
  lt1 (y_X12_isWord_15 y14_3 y14_8) fun (r_243 : Int32) =>
  if (r_243 : Int32) = 0 then (
   (1, y14_1, y14_2, y14_3, y14_4, y14_5, y14_6, y14_7, y14_8, y14_9, y14_11)
  ) else (
   lt6 (y_X12_go h0_size h0_limit y14_1 y14_4 y14_5 y14_8 F_h0_tape) fun (u_252 : Int32) (u_253 : Int32) (u_254 : Int32) (u_255 : Int32) (u_256 : Int32) (u_257 : Int64) =>
   lt11 (y_X12_readAnd_5 h0_size h0_limit u_252 u_253 u_254 u_255 u_256 y14_6 y14_7 u_257 y14_9 y14_11 F_h0_tape F_h0_now F_h0_name) fun (r_264 : Int32) (u_269 : Int32) (u_270 : Int32) (u_271 : Int32) (u_272 : Int32) (u_273 : Int32) (u_274 : Int32) (u_275 : Int32) (u_276 : Int64) (u_277 : Int32) (u_279 : Int32) =>
   if (r_264 : Int32) = 0 then (
    (0, u_269, u_270, u_271, u_272, u_273, u_274, u_275, u_276, u_277, u_279)
   ) else (
    y_X12_readOr_5_14 h0_size h0_limit F_h0_tape F_h0_now F_h0_name n14 u_269 u_270 u_271 u_272 u_273 u_274 u_275 u_276 u_277 u_279
   )
  )) := rfl
def y_X12_readOr_5 (h0_size : Int32) (h0_limit : Int32) (h0_to : Int32) (h0_from : Int32) (h0_kind : Int32) (h0_number : Int32) (h0_sign : Int32) (h0_fault : Int32) (h0_place : Int32) (h0_word : Int64) (h0_told : Int32) (h0_onesMany : Int32) (F_h0_tape : Nat → Int32) (F_h0_now : Nat → Int32) (F_h0_name : Nat → Int64)  : Int32 × Int32 × Int32 × Int32 × Int32 × Int32 × Int32 × Int32 × Int64 × Int32 × Int32 :=
  lt11 (y_X12_readAnd_5 h0_size h0_limit h0_to h0_from h0_kind h0_number h0_sign h0_fault h0_place h0_word h0_told h0_onesMany F_h0_tape F_h0_now F_h0_name) fun (r_340 : Int32) (u_345 : Int32) (u_346 : Int32) (u_347 : Int32) (u_348 : Int32) (u_349 : Int32) (u_350 : Int32) (u_351 : Int32) (u_352 : Int64) (u_353 : Int32) (u_355 : Int32) =>
  if (r_340 : Int32) = 0 then (
   (0, u_345, u_346, u_347, u_348, u_349, u_350, u_351, u_352, u_353, u_355)
  ) else (
   y_X12_readOr_5_14 h0_size h0_limit F_h0_tape F_h0_now F_h0_name 60 u_345 u_346 u_347 u_348 u_349 u_350 u_351 u_352 u_353 u_355
  )
theorem y_X12_readOr_5_s (h0_size : Int32) (h0_limit : Int32) (h0_to : Int32) (h0_from : Int32) (h0_kind : Int32) (h0_number : Int32) (h0_sign : Int32) (h0_fault : Int32) (h0_place : Int32) (h0_word : Int64) (h0_told : Int32) (h0_onesMany : Int32) (F_h0_tape : Nat → Int32) (F_h0_now : Nat → Int32) (F_h0_name : Nat → Int64)  : y_X12_readOr_5 h0_size h0_limit h0_to h0_from h0_kind h0_number h0_sign h0_fault h0_place h0_word h0_told h0_onesMany F_h0_tape F_h0_now F_h0_name = (
  lt11 (y_X12_readAnd_5 h0_size h0_limit h0_to h0_from h0_kind h0_number h0_sign h0_fault h0_place h0_word h0_told h0_onesMany F_h0_tape F_h0_now F_h0_name) fun (r_340 : Int32) (u_345 : Int32) (u_346 : Int32) (u_347 : Int32) (u_348 : Int32) (u_349 : Int32) (u_350 : Int32) (u_351 : Int32) (u_352 : Int64) (u_353 : Int32) (u_355 : Int32) =>
  if (r_340 : Int32) = 0 then (
   (0, u_345, u_346, u_347, u_348, u_349, u_350, u_351, u_352, u_353, u_355)
  ) else (
   y_X12_readOr_5_14 h0_size h0_limit F_h0_tape F_h0_now F_h0_name 60 u_345 u_346 u_347 u_348 u_349 u_350 u_351 u_352 u_353 u_355
  )) := rfl
def y_X12_readBracket_5 (h0_size : Int32) (h0_limit : Int32) (h0_to : Int32) (h0_from : Int32) (h0_kind : Int32) (h0_number : Int32) (h0_sign : Int32) (h0_fault : Int32) (h0_place : Int32) (h0_word : Int64) (h0_told : Int32) (h0_onesMany : Int32) (F_h0_tape : Nat → Int32) (F_h0_now : Nat → Int32) (F_h0_name : Nat → Int64)  : Int32 × Int32 × Int32 × Int32 × Int32 × Int32 × Int32 × Int32 × Int64 × Int32 × Int32 :=
  lt11 (y_X12_readOr_5 h0_size h0_limit h0_to h0_from h0_kind h0_number h0_sign h0_fault h0_place h0_word h0_told h0_onesMany F_h0_tape F_h0_now F_h0_name) fun (r_80 : Int32) (u_85 : Int32) (u_86 : Int32) (u_87 : Int32) (u_88 : Int32) (u_89 : Int32) (u_90 : Int32) (u_91 : Int32) (u_92 : Int64) (u_93 : Int32) (u_95 : Int32) =>
  if (r_80 : Int32) = 0 then (
   (0, u_85, u_86, u_87, u_88, u_89, u_90, u_91, u_92, u_93, u_95)
  ) else (
   lt1 (y_X12_isSign 41 u_87 u_89) fun (r_130 : Int32) =>
   if (r_130 : Int32) = 0 then (
    lt2 (y_X12_bad 1 u_87) fun (r_139 : Int32) (u_141 : Int32) =>
    (0, u_85, u_86, u_87, u_88, u_89, u_141, u_86, u_92, u_93, u_95)
   ) else (
    lt6 (y_X12_go h0_size h0_limit u_85 u_88 u_89 u_92 F_h0_tape) fun (u_148 : Int32) (u_149 : Int32) (u_150 : Int32) (u_151 : Int32) (u_152 : Int32) (u_153 : Int64) =>
    (1, u_148, u_149, u_150, u_151, u_152, u_90, u_91, u_153, u_93, u_95)
   )
  )
theorem y_X12_readBracket_5_s (h0_size : Int32) (h0_limit : Int32) (h0_to : Int32) (h0_from : Int32) (h0_kind : Int32) (h0_number : Int32) (h0_sign : Int32) (h0_fault : Int32) (h0_place : Int32) (h0_word : Int64) (h0_told : Int32) (h0_onesMany : Int32) (F_h0_tape : Nat → Int32) (F_h0_now : Nat → Int32) (F_h0_name : Nat → Int64)  : y_X12_readBracket_5 h0_size h0_limit h0_to h0_from h0_kind h0_number h0_sign h0_fault h0_place h0_word h0_told h0_onesMany F_h0_tape F_h0_now F_h0_name = (
  lt11 (y_X12_readOr_5 h0_size h0_limit h0_to h0_from h0_kind h0_number h0_sign h0_fault h0_place h0_word h0_told h0_onesMany F_h0_tape F_h0_now F_h0_name) fun (r_80 : Int32) (u_85 : Int32) (u_86 : Int32) (u_87 : Int32) (u_88 : Int32) (u_89 : Int32) (u_90 : Int32) (u_91 : Int32) (u_92 : Int64) (u_93 : Int32) (u_95 : Int32) =>
  if (r_80 : Int32) = 0 then (
   (0, u_85, u_86, u_87, u_88, u_89, u_90, u_91, u_92, u_93, u_95)
  ) else (
   lt1 (y_X12_isSign 41 u_87 u_89) fun (r_130 : Int32) =>
   if (r_130 : Int32) = 0 then (
    lt2 (y_X12_bad 1 u_87) fun (r_139 : Int32) (u_141 : Int32) =>
    (0, u_85, u_86, u_87, u_88, u_89, u_141, u_86, u_92, u_93, u_95)
   ) else (
    lt6 (y_X12_go h0_size h0_limit u_85 u_88 u_89 u_92 F_h0_tape) fun (u_148 : Int32) (u_149 : Int32) (u_150 : Int32) (u_151 : Int32) (u_152 : Int32) (u_153 : Int64) =>
    (1, u_148, u_149, u_150, u_151, u_152, u_90, u_91, u_153, u_93, u_95)
   )
  )) := rfl
def y_X12_readNot_5 (h0_size : Int32) (h0_limit : Int32) (h0_to : Int32) (h0_from : Int32) (h0_kind : Int32) (h0_number : Int32) (h0_sign : Int32) (h0_fault : Int32) (h0_place : Int32) (h0_word : Int64) (h0_told : Int32) (h0_onesMany : Int32) (F_h0_tape : Nat → Int32) (F_h0_now : Nat → Int32) (F_h0_name : Nat → Int64)  : Int32 × Int32 × Int32 × Int32 × Int32 × Int32 × Int32 × Int32 × Int64 × Int32 × Int32 :=
  lt11 (y_X12_readSaid_5 h0_size h0_limit h0_to h0_from h0_kind h0_number h0_sign h0_fault h0_place h0_word h0_told h0_onesMany F_h0_tape F_h0_now F_h0_name) fun (r_68 : Int32) (u_73 : Int32) (u_74 : Int32) (u_75 : Int32) (u_76 : Int32) (u_77 : Int32) (u_78 : Int32) (u_79 : Int32) (u_80 : Int64) (u_81 : Int32) (u_83 : Int32) =>
  if (r_68 : Int32) = 0 then (
   (0, u_73, u_74, u_75, u_76, u_77, u_78, u_79, u_80, u_81, u_83)
  ) else (
   (1, u_73, u_74, u_75, u_76, u_77, u_78, u_79, u_80, u_81, u_83)
  )
theorem y_X12_readNot_5_s (h0_size : Int32) (h0_limit : Int32) (h0_to : Int32) (h0_from : Int32) (h0_kind : Int32) (h0_number : Int32) (h0_sign : Int32) (h0_fault : Int32) (h0_place : Int32) (h0_word : Int64) (h0_told : Int32) (h0_onesMany : Int32) (F_h0_tape : Nat → Int32) (F_h0_now : Nat → Int32) (F_h0_name : Nat → Int64)  : y_X12_readNot_5 h0_size h0_limit h0_to h0_from h0_kind h0_number h0_sign h0_fault h0_place h0_word h0_told h0_onesMany F_h0_tape F_h0_now F_h0_name = (
  lt11 (y_X12_readSaid_5 h0_size h0_limit h0_to h0_from h0_kind h0_number h0_sign h0_fault h0_place h0_word h0_told h0_onesMany F_h0_tape F_h0_now F_h0_name) fun (r_68 : Int32) (u_73 : Int32) (u_74 : Int32) (u_75 : Int32) (u_76 : Int32) (u_77 : Int32) (u_78 : Int32) (u_79 : Int32) (u_80 : Int64) (u_81 : Int32) (u_83 : Int32) =>
  if (r_68 : Int32) = 0 then (
   (0, u_73, u_74, u_75, u_76, u_77, u_78, u_79, u_80, u_81, u_83)
  ) else (
   (1, u_73, u_74, u_75, u_76, u_77, u_78, u_79, u_80, u_81, u_83)
  )) := rfl
def y_X12_readSaid_4_10 (h0_size : Int32) (h0_limit : Int32) (h0_to : Int32) (h0_from : Int32) (h0_kind : Int32) (h0_number : Int32) (h0_sign : Int32) (h0_fault : Int32) (h0_place : Int32) (h0_word : Int64) (h0_told : Int32) (h0_onesMany : Int32) (F_h0_tape : Nat → Int32) (F_h0_now : Nat → Int32) (F_h0_name : Nat → Int64) : Nat → Int32 → Int32 → (Int32 × Int32 × Int32 × Int32 × Int32 × Int32 × Int32 × Int32 × Int64 × Int32 × Int32)
 | 0, _, _ => (0, 0, 0, 0, 0, 0, 0, 0, 0, 0, 0)
 | n10 + 1, y10_0, y10_1 =>
  if (25 : Int32) < y10_1 then (
   if (y10_0 : Int32) = 0 then (
    lt2 (y_X12_bad 1 h0_kind) fun (r_3170 : Int32) (u_3172 : Int32) =>
    (0, h0_to, h0_from, h0_kind, h0_number, h0_sign, u_3172, h0_from, h0_word, h0_told, h0_onesMany)
   ) else (
    if (h0_onesMany : Int32) = 20 then (
     lt2 (y_X12_bad 4 h0_kind) fun (r_3090 : Int32) (u_3092 : Int32) =>
     (0, h0_to, h0_from, h0_kind, h0_number, h0_sign, u_3092, h0_from, h0_word, h0_told, h0_onesMany)
    ) else (
     lt1 ((h0_onesMany : Int32) + 1) fun (x_3096 : Int32) =>
     lt6 (y_X12_go h0_size h0_limit h0_to h0_number h0_sign h0_word F_h0_tape) fun (u_3101 : Int32) (u_3102 : Int32) (u_3103 : Int32) (u_3104 : Int32) (u_3105 : Int32) (u_3106 : Int64) =>
     lt11 (y_X12_readBracket_5 h0_size h0_limit u_3101 u_3102 u_3103 u_3104 u_3105 h0_fault h0_place u_3106 h0_told x_3096 F_h0_tape F_h0_now F_h0_name) fun (r_3113 : Int32) (u_3118 : Int32) (u_3119 : Int32) (u_3120 : Int32) (u_3121 : Int32) (u_3122 : Int32) (u_3123 : Int32) (u_3124 : Int32) (u_3125 : Int64) (u_3126 : Int32) (u_3128 : Int32) =>
     if (r_3113 : Int32) = 0 then (
      (0, u_3118, u_3119, u_3120, u_3121, u_3122, u_3123, u_3124, u_3125, u_3126, u_3128)
     ) else (
      (1, u_3118, u_3119, u_3120, u_3121, u_3122, u_3123, u_3124, u_3125, u_3126, u_3128)
     )
    )
   )
  ) else (
   lt1 (y_X12_isWord y10_1 h0_kind h0_word) fun (r_3177 : Int32) =>
   if (r_3177 : Int32) = 0 then (
    lt1 (y10_1 + 1) fun (x_3184 : Int32) =>
    y_X12_readSaid_4_10 h0_size h0_limit h0_to h0_from h0_kind h0_number h0_sign h0_fault h0_place h0_word h0_told h0_onesMany F_h0_tape F_h0_now F_h0_name n10 y10_0 x_3184
   ) else (
    if (y10_0 : Int32) = 0 then (
     if (h0_onesMany : Int32) = 20 then (
      lt2 (y_X12_bad 4 h0_kind) fun (r_3277 : Int32) (u_3279 : Int32) =>
      (0, h0_to, h0_from, h0_kind, h0_number, h0_sign, u_3279, h0_from, h0_word, h0_told, h0_onesMany)
     ) else (
      lt1 ((h0_onesMany : Int32) + 1) fun (x_3283 : Int32) =>
      lt6 (y_X12_go h0_size h0_limit h0_to h0_number h0_sign h0_word F_h0_tape) fun (u_3288 : Int32) (u_3289 : Int32) (u_3290 : Int32) (u_3291 : Int32) (u_3292 : Int32) (u_3293 : Int64) =>
      if (y10_1 : Int32) = 17 then (
       lt11 (y_X12_readNot_5 h0_size h0_limit u_3288 u_3289 u_3290 u_3291 u_3292 h0_fault h0_place u_3293 h0_told x_3283 F_h0_tape F_h0_now F_h0_name) fun (r_3432 : Int32) (u_3437 : Int32) (u_3438 : Int32) (u_3439 : Int32) (u_3440 : Int32) (u_3441 : Int32) (u_3442 : Int32) (u_3443 : Int32) (u_3444 : Int64) (u_3445 : Int32) (u_3447 : Int32) =>
       if (r_3432 : Int32) = 0 then (
        (0, u_3437, u_3438, u_3439, u_3440, u_3441, u_3442, u_3443, u_3444, u_3445, u_3447)
       ) else (
        (1, u_3437, u_3438, u_3439, u_3440, u_3441, u_3442, u_3443, u_3444, u_3445, u_3447)
       )
      ) else (
       if (21 : Int32) ≤ y10_1 then (
        if (22 : Int32) ≤ y10_1 then (
         lt10 (y_X12_readCompare y10_1 h0_size h0_limit u_3288 u_3289 u_3290 u_3291 u_3292 h0_fault h0_place u_3293 h0_told F_h0_tape) fun (r_3308 : Int32) (u_3310 : Int32) (u_3311 : Int32) (u_3312 : Int32) (u_3313 : Int32) (u_3314 : Int32) (u_3315 : Int32) (u_3316 : Int32) (u_3317 : Int64) (u_3318 : Int32) =>
         if (r_3308 : Int32) = 0 then (
          (0, u_3310, u_3311, u_3312, u_3313, u_3314, u_3315, u_3316, u_3317, u_3318, x_3283)
         ) else (
          (1, u_3310, u_3311, u_3312, u_3313, u_3314, u_3315, u_3316, u_3317, u_3318, x_3283)
         )
        ) else (
         lt10 (y_X12_readOf y10_1 h0_size h0_limit u_3288 u_3289 u_3290 u_3291 u_3292 h0_fault h0_place u_3293 h0_told F_h0_now F_h0_name F_h0_tape) fun (r_3361 : Int32) (u_3363 : Int32) (u_3364 : Int32) (u_3365 : Int32) (u_3366 : Int32) (u_3367 : Int32) (u_3368 : Int32) (u_3369 : Int32) (u_3370 : Int64) (u_3371 : Int32) =>
         if (r_3361 : Int32) = 0 then (
          (0, u_3363, u_3364, u_3365, u_3366, u_3367, u_3368, u_3369, u_3370, u_3371, x_3283)
         ) else (
          (1, u_3363, u_3364, u_3365, u_3366, u_3367, u_3368, u_3369, u_3370, u_3371, x_3283)
         )
        )
       ) else (
        lt1 ((50 : Int32) + y10_1) fun (x_3412 : Int32) =>
        (1, u_3288, u_3289, u_3290, u_3291, u_3292, h0_fault, h0_place, u_3293, h0_told, x_3283)
       )
      )
     )
    ) else (
     if (h0_onesMany : Int32) = 20 then (
      lt2 (y_X12_bad 4 h0_kind) fun (r_3193 : Int32) (u_3195 : Int32) =>
      (0, h0_to, h0_from, h0_kind, h0_number, h0_sign, u_3195, h0_from, h0_word, h0_told, h0_onesMany)
     ) else (
      lt1 ((h0_onesMany : Int32) + 1) fun (x_3199 : Int32) =>
      lt6 (y_X12_go h0_size h0_limit h0_to h0_number h0_sign h0_word F_h0_tape) fun (u_3204 : Int32) (u_3205 : Int32) (u_3206 : Int32) (u_3207 : Int32) (u_3208 : Int32) (u_3209 : Int64) =>
      lt11 (y_X12_readBracket_5 h0_size h0_limit u_3204 u_3205 u_3206 u_3207 u_3208 h0_fault h0_place u_3209 h0_told x_3199 F_h0_tape F_h0_now F_h0_name) fun (r_3216 : Int32) (u_3221 : Int32) (u_3222 : Int32) (u_3223 : Int32) (u_3224 : Int32) (u_3225 : Int32) (u_3226 : Int32) (u_3227 : Int32) (u_3228 : Int64) (u_3229 : Int32) (u_3231 : Int32) =>
      if (r_3216 : Int32) = 0 then (
       (0, u_3221, u_3222, u_3223, u_3224, u_3225, u_3226, u_3227, u_3228, u_3229, u_3231)
      ) else (
       (1, u_3221, u_3222, u_3223, u_3224, u_3225, u_3226, u_3227, u_3228, u_3229, u_3231)
      )
     )
    )
   )
  )
theorem y_X12_readSaid_4_10_s (h0_size : Int32) (h0_limit : Int32) (h0_to : Int32) (h0_from : Int32) (h0_kind : Int32) (h0_number : Int32) (h0_sign : Int32) (h0_fault : Int32) (h0_place : Int32) (h0_word : Int64) (h0_told : Int32) (h0_onesMany : Int32) (F_h0_tape : Nat → Int32) (F_h0_now : Nat → Int32) (F_h0_name : Nat → Int64) (n10 : Nat) (y10_0 : Int32) (y10_1 : Int32) : y_X12_readSaid_4_10 h0_size h0_limit h0_to h0_from h0_kind h0_number h0_sign h0_fault h0_place h0_word h0_told h0_onesMany F_h0_tape F_h0_now F_h0_name (n10 + 1) y10_0 y10_1 = (
  if (25 : Int32) < y10_1 then (
   if (y10_0 : Int32) = 0 then (
    lt2 (y_X12_bad 1 h0_kind) fun (r_3170 : Int32) (u_3172 : Int32) =>
    (0, h0_to, h0_from, h0_kind, h0_number, h0_sign, u_3172, h0_from, h0_word, h0_told, h0_onesMany)
   ) else (
    if (h0_onesMany : Int32) = 20 then (
     lt2 (y_X12_bad 4 h0_kind) fun (r_3090 : Int32) (u_3092 : Int32) =>
     (0, h0_to, h0_from, h0_kind, h0_number, h0_sign, u_3092, h0_from, h0_word, h0_told, h0_onesMany)
    ) else (
     lt1 ((h0_onesMany : Int32) + 1) fun (x_3096 : Int32) =>
     lt6 (y_X12_go h0_size h0_limit h0_to h0_number h0_sign h0_word F_h0_tape) fun (u_3101 : Int32) (u_3102 : Int32) (u_3103 : Int32) (u_3104 : Int32) (u_3105 : Int32) (u_3106 : Int64) =>
     lt11 (y_X12_readBracket_5 h0_size h0_limit u_3101 u_3102 u_3103 u_3104 u_3105 h0_fault h0_place u_3106 h0_told x_3096 F_h0_tape F_h0_now F_h0_name) fun (r_3113 : Int32) (u_3118 : Int32) (u_3119 : Int32) (u_3120 : Int32) (u_3121 : Int32) (u_3122 : Int32) (u_3123 : Int32) (u_3124 : Int32) (u_3125 : Int64) (u_3126 : Int32) (u_3128 : Int32) =>
     if (r_3113 : Int32) = 0 then (
      (0, u_3118, u_3119, u_3120, u_3121, u_3122, u_3123, u_3124, u_3125, u_3126, u_3128)
     ) else (
      (1, u_3118, u_3119, u_3120, u_3121, u_3122, u_3123, u_3124, u_3125, u_3126, u_3128)
     )
    )
   )
  ) else (
   lt1 (y_X12_isWord y10_1 h0_kind h0_word) fun (r_3177 : Int32) =>
   if (r_3177 : Int32) = 0 then (
    lt1 (y10_1 + 1) fun (x_3184 : Int32) =>
    y_X12_readSaid_4_10 h0_size h0_limit h0_to h0_from h0_kind h0_number h0_sign h0_fault h0_place h0_word h0_told h0_onesMany F_h0_tape F_h0_now F_h0_name n10 y10_0 x_3184
   ) else (
    if (y10_0 : Int32) = 0 then (
     if (h0_onesMany : Int32) = 20 then (
      lt2 (y_X12_bad 4 h0_kind) fun (r_3277 : Int32) (u_3279 : Int32) =>
      (0, h0_to, h0_from, h0_kind, h0_number, h0_sign, u_3279, h0_from, h0_word, h0_told, h0_onesMany)
     ) else (
      lt1 ((h0_onesMany : Int32) + 1) fun (x_3283 : Int32) =>
      lt6 (y_X12_go h0_size h0_limit h0_to h0_number h0_sign h0_word F_h0_tape) fun (u_3288 : Int32) (u_3289 : Int32) (u_3290 : Int32) (u_3291 : Int32) (u_3292 : Int32) (u_3293 : Int64) =>
      if (y10_1 : Int32) = 17 then (
       lt11 (y_X12_readNot_5 h0_size h0_limit u_3288 u_3289 u_3290 u_3291 u_3292 h0_fault h0_place u_3293 h0_told x_3283 F_h0_tape F_h0_now F_h0_name) fun (r_3432 : Int32) (u_3437 : Int32) (u_3438 : Int32) (u_3439 : Int32) (u_3440 : Int32) (u_3441 : Int32) (u_3442 : Int32) (u_3443 : Int32) (u_3444 : Int64) (u_3445 : Int32) (u_3447 : Int32) =>
       if (r_3432 : Int32) = 0 then (
        (0, u_3437, u_3438, u_3439, u_3440, u_3441, u_3442, u_3443, u_3444, u_3445, u_3447)
       ) else (
        (1, u_3437, u_3438, u_3439, u_3440, u_3441, u_3442, u_3443, u_3444, u_3445, u_3447)
       )
      ) else (
       if (21 : Int32) ≤ y10_1 then (
        if (22 : Int32) ≤ y10_1 then (
         lt10 (y_X12_readCompare y10_1 h0_size h0_limit u_3288 u_3289 u_3290 u_3291 u_3292 h0_fault h0_place u_3293 h0_told F_h0_tape) fun (r_3308 : Int32) (u_3310 : Int32) (u_3311 : Int32) (u_3312 : Int32) (u_3313 : Int32) (u_3314 : Int32) (u_3315 : Int32) (u_3316 : Int32) (u_3317 : Int64) (u_3318 : Int32) =>
         if (r_3308 : Int32) = 0 then (
          (0, u_3310, u_3311, u_3312, u_3313, u_3314, u_3315, u_3316, u_3317, u_3318, x_3283)
         ) else (
          (1, u_3310, u_3311, u_3312, u_3313, u_3314, u_3315, u_3316, u_3317, u_3318, x_3283)
         )
        ) else (
         lt10 (y_X12_readOf y10_1 h0_size h0_limit u_3288 u_3289 u_3290 u_3291 u_3292 h0_fault h0_place u_3293 h0_told F_h0_now F_h0_name F_h0_tape) fun (r_3361 : Int32) (u_3363 : Int32) (u_3364 : Int32) (u_3365 : Int32) (u_3366 : Int32) (u_3367 : Int32) (u_3368 : Int32) (u_3369 : Int32) (u_3370 : Int64) (u_3371 : Int32) =>
         if (r_3361 : Int32) = 0 then (
          (0, u_3363, u_3364, u_3365, u_3366, u_3367, u_3368, u_3369, u_3370, u_3371, x_3283)
         ) else (
          (1, u_3363, u_3364, u_3365, u_3366, u_3367, u_3368, u_3369, u_3370, u_3371, x_3283)
         )
        )
       ) else (
        lt1 ((50 : Int32) + y10_1) fun (x_3412 : Int32) =>
        (1, u_3288, u_3289, u_3290, u_3291, u_3292, h0_fault, h0_place, u_3293, h0_told, x_3283)
       )
      )
     )
    ) else (
     if (h0_onesMany : Int32) = 20 then (
      lt2 (y_X12_bad 4 h0_kind) fun (r_3193 : Int32) (u_3195 : Int32) =>
      (0, h0_to, h0_from, h0_kind, h0_number, h0_sign, u_3195, h0_from, h0_word, h0_told, h0_onesMany)
     ) else (
      lt1 ((h0_onesMany : Int32) + 1) fun (x_3199 : Int32) =>
      lt6 (y_X12_go h0_size h0_limit h0_to h0_number h0_sign h0_word F_h0_tape) fun (u_3204 : Int32) (u_3205 : Int32) (u_3206 : Int32) (u_3207 : Int32) (u_3208 : Int32) (u_3209 : Int64) =>
      lt11 (y_X12_readBracket_5 h0_size h0_limit u_3204 u_3205 u_3206 u_3207 u_3208 h0_fault h0_place u_3209 h0_told x_3199 F_h0_tape F_h0_now F_h0_name) fun (r_3216 : Int32) (u_3221 : Int32) (u_3222 : Int32) (u_3223 : Int32) (u_3224 : Int32) (u_3225 : Int32) (u_3226 : Int32) (u_3227 : Int32) (u_3228 : Int64) (u_3229 : Int32) (u_3231 : Int32) =>
      if (r_3216 : Int32) = 0 then (
       (0, u_3221, u_3222, u_3223, u_3224, u_3225, u_3226, u_3227, u_3228, u_3229, u_3231)
      ) else (
       (1, u_3221, u_3222, u_3223, u_3224, u_3225, u_3226, u_3227, u_3228, u_3229, u_3231)
      )
     )
    )
   )
  )) := rfl
def y_X12_readSaid_4 (h0_size : Int32) (h0_limit : Int32) (h0_to : Int32) (h0_from : Int32) (h0_kind : Int32) (h0_number : Int32) (h0_sign : Int32) (h0_fault : Int32) (h0_place : Int32) (h0_word : Int64) (h0_told : Int32) (h0_onesMany : Int32) (F_h0_tape : Nat → Int32) (F_h0_now : Nat → Int32) (F_h0_name : Nat → Int64)  : Int32 × Int32 × Int32 × Int32 × Int32 × Int32 × Int32 × Int32 × Int64 × Int32 × Int32 :=
  lt1 (y_X12_isSign 40 h0_kind h0_sign) fun (r_3488 : Int32) =>
  if (r_3488 : Int32) = 0 then (
   y_X12_readSaid_4_10 h0_size h0_limit h0_to h0_from h0_kind h0_number h0_sign h0_fault h0_place h0_word h0_told h0_onesMany F_h0_tape F_h0_now F_h0_name 10 0 17
  ) else (
   y_X12_readSaid_4_10 h0_size h0_limit h0_to h0_from h0_kind h0_number h0_sign h0_fault h0_place h0_word h0_told h0_onesMany F_h0_tape F_h0_now F_h0_name 10 1 17
  )
theorem y_X12_readSaid_4_s (h0_size : Int32) (h0_limit : Int32) (h0_to : Int32) (h0_from : Int32) (h0_kind : Int32) (h0_number : Int32) (h0_sign : Int32) (h0_fault : Int32) (h0_place : Int32) (h0_word : Int64) (h0_told : Int32) (h0_onesMany : Int32) (F_h0_tape : Nat → Int32) (F_h0_now : Nat → Int32) (F_h0_name : Nat → Int64)  : y_X12_readSaid_4 h0_size h0_limit h0_to h0_from h0_kind h0_number h0_sign h0_fault h0_place h0_word h0_told h0_onesMany F_h0_tape F_h0_now F_h0_name = (
  lt1 (y_X12_isSign 40 h0_kind h0_sign) fun (r_3488 : Int32) =>
  if (r_3488 : Int32) = 0 then (
   y_X12_readSaid_4_10 h0_size h0_limit h0_to h0_from h0_kind h0_number h0_sign h0_fault h0_place h0_word h0_told h0_onesMany F_h0_tape F_h0_now F_h0_name 10 0 17
  ) else (
   y_X12_readSaid_4_10 h0_size h0_limit h0_to h0_from h0_kind h0_number h0_sign h0_fault h0_place h0_word h0_told h0_onesMany F_h0_tape F_h0_now F_h0_name 10 1 17
  )) := rfl
def y_X12_readAnd_4_14 (h0_size : Int32) (h0_limit : Int32) (F_h0_tape : Nat → Int32) (F_h0_now : Nat → Int32) (F_h0_name : Nat → Int64) : Nat → Int32 → Int32 → Int32 → Int32 → Int32 → Int32 → Int32 → Int64 → Int32 → Int32 → (Int32 × Int32 × Int32 × Int32 × Int32 × Int32 × Int32 × Int32 × Int64 × Int32 × Int32)
 | 0, _, _, _, _, _, _, _, _, _, _ => (0, 0, 0, 0, 0, 0, 0, 0, 0, 0, 0)
 | n14 + 1, y14_1, y14_2, y14_3, y14_4, y14_5, y14_6, y14_7, y14_8, y14_9, y14_11 =>
  lt1 (y_X12_isWord_16 y14_3 y14_8) fun (r_243 : Int32) =>
  if (r_243 : Int32) = 0 then (
   (1, y14_1, y14_2, y14_3, y14_4, y14_5, y14_6, y14_7, y14_8, y14_9, y14_11)
  ) else (
   lt6 (y_X12_go h0_size h0_limit y14_1 y14_4 y14_5 y14_8 F_h0_tape) fun (u_252 : Int32) (u_253 : Int32) (u_254 : Int32) (u_255 : Int32) (u_256 : Int32) (u_257 : Int64) =>
   lt11 (y_X12_readSaid_4 h0_size h0_limit u_252 u_253 u_254 u_255 u_256 y14_6 y14_7 u_257 y14_9 y14_11 F_h0_tape F_h0_now F_h0_name) fun (r_264 : Int32) (u_269 : Int32) (u_270 : Int32) (u_271 : Int32) (u_272 : Int32) (u_273 : Int32) (u_274 : Int32) (u_275 : Int32) (u_276 : Int64) (u_277 : Int32) (u_279 : Int32) =>
   if (r_264 : Int32) = 0 then (
    (0, u_269, u_270, u_271, u_272, u_273, u_274, u_275, u_276, u_277, u_279)
   ) else (
    y_X12_readAnd_4_14 h0_size h0_limit F_h0_tape F_h0_now F_h0_name n14 u_269 u_270 u_271 u_272 u_273 u_274 u_275 u_276 u_277 u_279
   )
  )
theorem y_X12_readAnd_4_14_s (h0_size : Int32) (h0_limit : Int32) (F_h0_tape : Nat → Int32) (F_h0_now : Nat → Int32) (F_h0_name : Nat → Int64) (n14 : Nat) (y14_1 : Int32) (y14_2 : Int32) (y14_3 : Int32) (y14_4 : Int32) (y14_5 : Int32) (y14_6 : Int32) (y14_7 : Int32) (y14_8 : Int64) (y14_9 : Int32) (y14_11 : Int32) : y_X12_readAnd_4_14 h0_size h0_limit F_h0_tape F_h0_now F_h0_name (n14 + 1) y14_1 y14_2 y14_3 y14_4 y14_5 y14_6 y14_7 y14_8 y14_9 y14_11 = (
  lt1 (y_X12_isWord_16 y14_3 y14_8) fun (r_243 : Int32) =>
  if (r_243 : Int32) = 0 then (
   (1, y14_1, y14_2, y14_3, y14_4, y14_5, y14_6, y14_7, y14_8, y14_9, y14_11)
  ) else (
   lt6 (y_X12_go h0_size h0_limit y14_1 y14_4 y14_5 y14_8 F_h0_tape) fun (u_252 : Int32) (u_253 : Int32) (u_254 : Int32) (u_255 : Int32) (u_256 : Int32) (u_257 : Int64) =>
   lt11 (y_X12_readSaid_4 h0_size h0_limit u_252 u_253 u_254 u_255 u_256 y14_6 y14_7 u_257 y14_9 y14_11 F_h0_tape F_h0_now F_h0_name) fun (r_264 : Int32) (u_269 : Int32) (u_270 : Int32) (u_271 : Int32) (u_272 : Int32) (u_273 : Int32) (u_274 : Int32) (u_275 : Int32) (u_276 : Int64) (u_277 : Int32) (u_279 : Int32) =>
   if (r_264 : Int32) = 0 then (
    (0, u_269, u_270, u_271, u_272, u_273, u_274, u_275, u_276, u_277, u_279)
   ) else (
    y_X12_readAnd_4_14 h0_size h0_limit F_h0_tape F_h0_now F_h0_name n14 u_269 u_270 u_271 u_272 u_273 u_274 u_275 u_276 u_277 u_279
   )
  )) := rfl
def y_X12_readAnd_4 (h0_size : Int32) (h0_limit : Int32) (h0_to : Int32) (h0_from : Int32) (h0_kind : Int32) (h0_number : Int32) (h0_sign : Int32) (h0_fault : Int32) (h0_place : Int32) (h0_word : Int64) (h0_told : Int32) (h0_onesMany : Int32) (F_h0_tape : Nat → Int32) (F_h0_now : Nat → Int32) (F_h0_name : Nat → Int64)  : Int32 × Int32 × Int32 × Int32 × Int32 × Int32 × Int32 × Int32 × Int64 × Int32 × Int32 :=
  lt11 (y_X12_readSaid_4 h0_size h0_limit h0_to h0_from h0_kind h0_number h0_sign h0_fault h0_place h0_word h0_told h0_onesMany F_h0_tape F_h0_now F_h0_name) fun (r_340 : Int32) (u_345 : Int32) (u_346 : Int32) (u_347 : Int32) (u_348 : Int32) (u_349 : Int32) (u_350 : Int32) (u_351 : Int32) (u_352 : Int64) (u_353 : Int32) (u_355 : Int32) =>
  if (r_340 : Int32) = 0 then (
   (0, u_345, u_346, u_347, u_348, u_349, u_350, u_351, u_352, u_353, u_355)
  ) else (
   y_X12_readAnd_4_14 h0_size h0_limit F_h0_tape F_h0_now F_h0_name 60 u_345 u_346 u_347 u_348 u_349 u_350 u_351 u_352 u_353 u_355
  )
theorem y_X12_readAnd_4_s (h0_size : Int32) (h0_limit : Int32) (h0_to : Int32) (h0_from : Int32) (h0_kind : Int32) (h0_number : Int32) (h0_sign : Int32) (h0_fault : Int32) (h0_place : Int32) (h0_word : Int64) (h0_told : Int32) (h0_onesMany : Int32) (F_h0_tape : Nat → Int32) (F_h0_now : Nat → Int32) (F_h0_name : Nat → Int64)  : y_X12_readAnd_4 h0_size h0_limit h0_to h0_from h0_kind h0_number h0_sign h0_fault h0_place h0_word h0_told h0_onesMany F_h0_tape F_h0_now F_h0_name = (
  lt11 (y_X12_readSaid_4 h0_size h0_limit h0_to h0_from h0_kind h0_number h0_sign h0_fault h0_place h0_word h0_told h0_onesMany F_h0_tape F_h0_now F_h0_name) fun (r_340 : Int32) (u_345 : Int32) (u_346 : Int32) (u_347 : Int32) (u_348 : Int32) (u_349 : Int32) (u_350 : Int32) (u_351 : Int32) (u_352 : Int64) (u_353 : Int32) (u_355 : Int32) =>
  if (r_340 : Int32) = 0 then (
   (0, u_345, u_346, u_347, u_348, u_349, u_350, u_351, u_352, u_353, u_355)
  ) else (
   y_X12_readAnd_4_14 h0_size h0_limit F_h0_tape F_h0_now F_h0_name 60 u_345 u_346 u_347 u_348 u_349 u_350 u_351 u_352 u_353 u_355
  )) := rfl
def y_X12_readOr_4_14 (h0_size : Int32) (h0_limit : Int32) (F_h0_tape : Nat → Int32) (F_h0_now : Nat → Int32) (F_h0_name : Nat → Int64) : Nat → Int32 → Int32 → Int32 → Int32 → Int32 → Int32 → Int32 → Int64 → Int32 → Int32 → (Int32 × Int32 × Int32 × Int32 × Int32 × Int32 × Int32 × Int32 × Int64 × Int32 × Int32)
 | 0, _, _, _, _, _, _, _, _, _, _ => (0, 0, 0, 0, 0, 0, 0, 0, 0, 0, 0)
 | n14 + 1, y14_1, y14_2, y14_3, y14_4, y14_5, y14_6, y14_7, y14_8, y14_9, y14_11 =>
  lt1 (y_X12_isWord_15 y14_3 y14_8) fun (r_243 : Int32) =>
  if (r_243 : Int32) = 0 then (
   (1, y14_1, y14_2, y14_3, y14_4, y14_5, y14_6, y14_7, y14_8, y14_9, y14_11)
  ) else (
   lt6 (y_X12_go h0_size h0_limit y14_1 y14_4 y14_5 y14_8 F_h0_tape) fun (u_252 : Int32) (u_253 : Int32) (u_254 : Int32) (u_255 : Int32) (u_256 : Int32) (u_257 : Int64) =>
   lt11 (y_X12_readAnd_4 h0_size h0_limit u_252 u_253 u_254 u_255 u_256 y14_6 y14_7 u_257 y14_9 y14_11 F_h0_tape F_h0_now F_h0_name) fun (r_264 : Int32) (u_269 : Int32) (u_270 : Int32) (u_271 : Int32) (u_272 : Int32) (u_273 : Int32) (u_274 : Int32) (u_275 : Int32) (u_276 : Int64) (u_277 : Int32) (u_279 : Int32) =>
   if (r_264 : Int32) = 0 then (
    (0, u_269, u_270, u_271, u_272, u_273, u_274, u_275, u_276, u_277, u_279)
   ) else (
    y_X12_readOr_4_14 h0_size h0_limit F_h0_tape F_h0_now F_h0_name n14 u_269 u_270 u_271 u_272 u_273 u_274 u_275 u_276 u_277 u_279
   )
  )
theorem y_X12_readOr_4_14_s (h0_size : Int32) (h0_limit : Int32) (F_h0_tape : Nat → Int32) (F_h0_now : Nat → Int32) (F_h0_name : Nat → Int64) (n14 : Nat) (y14_1 : Int32) (y14_2 : Int32) (y14_3 : Int32) (y14_4 : Int32) (y14_5 : Int32) (y14_6 : Int32) (y14_7 : Int32) (y14_8 : Int64) (y14_9 : Int32) (y14_11 : Int32) : y_X12_readOr_4_14 h0_size h0_limit F_h0_tape F_h0_now F_h0_name (n14 + 1) y14_1 y14_2 y14_3 y14_4 y14_5 y14_6 y14_7 y14_8 y14_9 y14_11 = (
  lt1 (y_X12_isWord_15 y14_3 y14_8) fun (r_243 : Int32) =>
  if (r_243 : Int32) = 0 then (
   (1, y14_1, y14_2, y14_3, y14_4, y14_5, y14_6, y14_7, y14_8, y14_9, y14_11)
  ) else (
   lt6 (y_X12_go h0_size h0_limit y14_1 y14_4 y14_5 y14_8 F_h0_tape) fun (u_252 : Int32) (u_253 : Int32) (u_254 : Int32) (u_255 : Int32) (u_256 : Int32) (u_257 : Int64) =>
   lt11 (y_X12_readAnd_4 h0_size h0_limit u_252 u_253 u_254 u_255 u_256 y14_6 y14_7 u_257 y14_9 y14_11 F_h0_tape F_h0_now F_h0_name) fun (r_264 : Int32) (u_269 : Int32) (u_270 : Int32) (u_271 : Int32) (u_272 : Int32) (u_273 : Int32) (u_274 : Int32) (u_275 : Int32) (u_276 : Int64) (u_277 : Int32) (u_279 : Int32) =>
   if (r_264 : Int32) = 0 then (
    (0, u_269, u_270, u_271, u_272, u_273, u_274, u_275, u_276, u_277, u_279)
   ) else (
    y_X12_readOr_4_14 h0_size h0_limit F_h0_tape F_h0_now F_h0_name n14 u_269 u_270 u_271 u_272 u_273 u_274 u_275 u_276 u_277 u_279
   )
  )) := rfl
def y_X12_readOr_4 (h0_size : Int32) (h0_limit : Int32) (h0_to : Int32) (h0_from : Int32) (h0_kind : Int32) (h0_number : Int32) (h0_sign : Int32) (h0_fault : Int32) (h0_place : Int32) (h0_word : Int64) (h0_told : Int32) (h0_onesMany : Int32) (F_h0_tape : Nat → Int32) (F_h0_now : Nat → Int32) (F_h0_name : Nat → Int64)  : Int32 × Int32 × Int32 × Int32 × Int32 × Int32 × Int32 × Int32 × Int64 × Int32 × Int32 :=
  lt11 (y_X12_readAnd_4 h0_size h0_limit h0_to h0_from h0_kind h0_number h0_sign h0_fault h0_place h0_word h0_told h0_onesMany F_h0_tape F_h0_now F_h0_name) fun (r_340 : Int32) (u_345 : Int32) (u_346 : Int32) (u_347 : Int32) (u_348 : Int32) (u_349 : Int32) (u_350 : Int32) (u_351 : Int32) (u_352 : Int64) (u_353 : Int32) (u_355 : Int32) =>
  if (r_340 : Int32) = 0 then (
   (0, u_345, u_346, u_347, u_348, u_349, u_350, u_351, u_352, u_353, u_355)
  ) else (
   y_X12_readOr_4_14 h0_size h0_limit F_h0_tape F_h0_now F_h0_name 60 u_345 u_346 u_347 u_348 u_349 u_350 u_351 u_352 u_353 u_355
  )
theorem y_X12_readOr_4_s (h0_size : Int32) (h0_limit : Int32) (h0_to : Int32) (h0_from : Int32) (h0_kind : Int32) (h0_number : Int32) (h0_sign : Int32) (h0_fault : Int32) (h0_place : Int32) (h0_word : Int64) (h0_told : Int32) (h0_onesMany : Int32) (F_h0_tape : Nat → Int32) (F_h0_now : Nat → Int32) (F_h0_name : Nat → Int64)  : y_X12_readOr_4 h0_size h0_limit h0_to h0_from h0_kind h0_number h0_sign h0_fault h0_place h0_word h0_told h0_onesMany F_h0_tape F_h0_now F_h0_name = (
  lt11 (y_X12_readAnd_4 h0_size h0_limit h0_to h0_from h0_kind h0_number h0_sign h0_fault h0_place h0_word h0_told h0_onesMany F_h0_tape F_h0_now F_h0_name) fun (r_340 : Int32) (u_345 : Int32) (u_346 : Int32) (u_347 : Int32) (u_348 : Int32) (u_349 : Int32) (u_350 : Int32) (u_351 : Int32) (u_352 : Int64) (u_353 : Int32) (u_355 : Int32) =>
  if (r_340 : Int32) = 0 then (
   (0, u_345, u_346, u_347, u_348, u_349, u_350, u_351, u_352, u_353, u_355)
  ) else (
   y_X12_readOr_4_14 h0_size h0_limit F_h0_tape F_h0_now F_h0_name 60 u_345 u_346 u_347 u_348 u_349 u_350 u_351 u_352 u_353 u_355
  )) := rfl
def y_X12_readBracket_4 (h0_size : Int32) (h0_limit : Int32) (h0_to : Int32) (h0_from : Int32) (h0_kind : Int32) (h0_number : Int32) (h0_sign : Int32) (h0_fault : Int32) (h0_place : Int32) (h0_word : Int64) (h0_told : Int32) (h0_onesMany : Int32) (F_h0_tape : Nat → Int32) (F_h0_now : Nat → Int32) (F_h0_name : Nat → Int64)  : Int32 × Int32 × Int32 × Int32 × Int32 × Int32 × Int32 × Int32 × Int64 × Int32 × Int32 :=
  lt11 (y_X12_readOr_4 h0_size h0_limit h0_to h0_from h0_kind h0_number h0_sign h0_fault h0_place h0_word h0_told h0_onesMany F_h0_tape F_h0_now F_h0_name) fun (r_80 : Int32) (u_85 : Int32) (u_86 : Int32) (u_87 : Int32) (u_88 : Int32) (u_89 : Int32) (u_90 : Int32) (u_91 : Int32) (u_92 : Int64) (u_93 : Int32) (u_95 : Int32) =>
  if (r_80 : Int32) = 0 then (
   (0, u_85, u_86, u_87, u_88, u_89, u_90, u_91, u_92, u_93, u_95)
  ) else (
   lt1 (y_X12_isSign 41 u_87 u_89) fun (r_130 : Int32) =>
   if (r_130 : Int32) = 0 then (
    lt2 (y_X12_bad 1 u_87) fun (r_139 : Int32) (u_141 : Int32) =>
    (0, u_85, u_86, u_87, u_88, u_89, u_141, u_86, u_92, u_93, u_95)
   ) else (
    lt6 (y_X12_go h0_size h0_limit u_85 u_88 u_89 u_92 F_h0_tape) fun (u_148 : Int32) (u_149 : Int32) (u_150 : Int32) (u_151 : Int32) (u_152 : Int32) (u_153 : Int64) =>
    (1, u_148, u_149, u_150, u_151, u_152, u_90, u_91, u_153, u_93, u_95)
   )
  )
theorem y_X12_readBracket_4_s (h0_size : Int32) (h0_limit : Int32) (h0_to : Int32) (h0_from : Int32) (h0_kind : Int32) (h0_number : Int32) (h0_sign : Int32) (h0_fault : Int32) (h0_place : Int32) (h0_word : Int64) (h0_told : Int32) (h0_onesMany : Int32) (F_h0_tape : Nat → Int32) (F_h0_now : Nat → Int32) (F_h0_name : Nat → Int64)  : y_X12_readBracket_4 h0_size h0_limit h0_to h0_from h0_kind h0_number h0_sign h0_fault h0_place h0_word h0_told h0_onesMany F_h0_tape F_h0_now F_h0_name = (
  lt11 (y_X12_readOr_4 h0_size h0_limit h0_to h0_from h0_kind h0_number h0_sign h0_fault h0_place h0_word h0_told h0_onesMany F_h0_tape F_h0_now F_h0_name) fun (r_80 : Int32) (u_85 : Int32) (u_86 : Int32) (u_87 : Int32) (u_88 : Int32) (u_89 : Int32) (u_90 : Int32) (u_91 : Int32) (u_92 : Int64) (u_93 : Int32) (u_95 : Int32) =>
  if (r_80 : Int32) = 0 then (
   (0, u_85, u_86, u_87, u_88, u_89, u_90, u_91, u_92, u_93, u_95)
  ) else (
   lt1 (y_X12_isSign 41 u_87 u_89) fun (r_130 : Int32) =>
   if (r_130 : Int32) = 0 then (
    lt2 (y_X12_bad 1 u_87) fun (r_139 : Int32) (u_141 : Int32) =>
    (0, u_85, u_86, u_87, u_88, u_89, u_141, u_86, u_92, u_93, u_95)
   ) else (
    lt6 (y_X12_go h0_size h0_limit u_85 u_88 u_89 u_92 F_h0_tape) fun (u_148 : Int32) (u_149 : Int32) (u_150 : Int32) (u_151 : Int32) (u_152 : Int32) (u_153 : Int64) =>
    (1, u_148, u_149, u_150, u_151, u_152, u_90, u_91, u_153, u_93, u_95)
   )
  )) := rfl
def y_X12_readNot_4 (h0_size : Int32) (h0_limit : Int32) (h0_to : Int32) (h0_from : Int32) (h0_kind : Int32) (h0_number : Int32) (h0_sign : Int32) (h0_fault : Int32) (h0_place : Int32) (h0_word : Int64) (h0_told : Int32) (h0_onesMany : Int32) (F_h0_tape : Nat → Int32) (F_h0_now : Nat → Int32) (F_h0_name : Nat → Int64)  : Int32 × Int32 × Int32 × Int32 × Int32 × Int32 × Int32 × Int32 × Int64 × Int32 × Int32 :=
  lt11 (y_X12_readSaid_4 h0_size h0_limit h0_to h0_from h0_kind h0_number h0_sign h0_fault h0_place h0_word h0_told h0_onesMany F_h0_tape F_h0_now F_h0_name) fun (r_68 : Int32) (u_73 : Int32) (u_74 : Int32) (u_75 : Int32) (u_76 : Int32) (u_77 : Int32) (u_78 : Int32) (u_79 : Int32) (u_80 : Int64) (u_81 : Int32) (u_83 : Int32) =>
  if (r_68 : Int32) = 0 then (
   (0, u_73, u_74, u_75, u_76, u_77, u_78, u_79, u_80, u_81, u_83)
  ) else (
   (1, u_73, u_74, u_75, u_76, u_77, u_78, u_79, u_80, u_81, u_83)
  )
theorem y_X12_readNot_4_s (h0_size : Int32) (h0_limit : Int32) (h0_to : Int32) (h0_from : Int32) (h0_kind : Int32) (h0_number : Int32) (h0_sign : Int32) (h0_fault : Int32) (h0_place : Int32) (h0_word : Int64) (h0_told : Int32) (h0_onesMany : Int32) (F_h0_tape : Nat → Int32) (F_h0_now : Nat → Int32) (F_h0_name : Nat → Int64)  : y_X12_readNot_4 h0_size h0_limit h0_to h0_from h0_kind h0_number h0_sign h0_fault h0_place h0_word h0_told h0_onesMany F_h0_tape F_h0_now F_h0_name = (
  lt11 (y_X12_readSaid_4 h0_size h0_limit h0_to h0_from h0_kind h0_number h0_sign h0_fault h0_place h0_word h0_told h0_onesMany F_h0_tape F_h0_now F_h0_name) fun (r_68 : Int32) (u_73 : Int32) (u_74 : Int32) (u_75 : Int32) (u_76 : Int32) (u_77 : Int32) (u_78 : Int32) (u_79 : Int32) (u_80 : Int64) (u_81 : Int32) (u_83 : Int32) =>
  if (r_68 : Int32) = 0 then (
   (0, u_73, u_74, u_75, u_76, u_77, u_78, u_79, u_80, u_81, u_83)
  ) else (
   (1, u_73, u_74, u_75, u_76, u_77, u_78, u_79, u_80, u_81, u_83)
  )) := rfl
def y_X12_readSaid_3_10 (h0_size : Int32) (h0_limit : Int32) (h0_to : Int32) (h0_from : Int32) (h0_kind : Int32) (h0_number : Int32) (h0_sign : Int32) (h0_fault : Int32) (h0_place : Int32) (h0_word : Int64) (h0_told : Int32) (h0_onesMany : Int32) (F_h0_tape : Nat → Int32) (F_h0_now : Nat → Int32) (F_h0_name : Nat → Int64) : Nat → Int32 → Int32 → (Int32 × Int32 × Int32 × Int32 × Int32 × Int32 × Int32 × Int32 × Int64 × Int32 × Int32)
 | 0, _, _ => (0, 0, 0, 0, 0, 0, 0, 0, 0, 0, 0)
 | n10 + 1, y10_0, y10_1 =>
  if (25 : Int32) < y10_1 then (
   if (y10_0 : Int32) = 0 then (
    lt2 (y_X12_bad 1 h0_kind) fun (r_3170 : Int32) (u_3172 : Int32) =>
    (0, h0_to, h0_from, h0_kind, h0_number, h0_sign, u_3172, h0_from, h0_word, h0_told, h0_onesMany)
   ) else (
    if (h0_onesMany : Int32) = 20 then (
     lt2 (y_X12_bad 4 h0_kind) fun (r_3090 : Int32) (u_3092 : Int32) =>
     (0, h0_to, h0_from, h0_kind, h0_number, h0_sign, u_3092, h0_from, h0_word, h0_told, h0_onesMany)
    ) else (
     lt1 ((h0_onesMany : Int32) + 1) fun (x_3096 : Int32) =>
     lt6 (y_X12_go h0_size h0_limit h0_to h0_number h0_sign h0_word F_h0_tape) fun (u_3101 : Int32) (u_3102 : Int32) (u_3103 : Int32) (u_3104 : Int32) (u_3105 : Int32) (u_3106 : Int64) =>
     lt11 (y_X12_readBracket_4 h0_size h0_limit u_3101 u_3102 u_3103 u_3104 u_3105 h0_fault h0_place u_3106 h0_told x_3096 F_h0_tape F_h0_now F_h0_name) fun (r_3113 : Int32) (u_3118 : Int32) (u_3119 : Int32) (u_3120 : Int32) (u_3121 : Int32) (u_3122 : Int32) (u_3123 : Int32) (u_3124 : Int32) (u_3125 : Int64) (u_3126 : Int32) (u_3128 : Int32) =>
     if (r_3113 : Int32) = 0 then (
      (0, u_3118, u_3119, u_3120, u_3121, u_3122, u_3123, u_3124, u_3125, u_3126, u_3128)
     ) else (
      (1, u_3118, u_3119, u_3120, u_3121, u_3122, u_3123, u_3124, u_3125, u_3126, u_3128)
     )
    )
   )
  ) else (
   lt1 (y_X12_isWord y10_1 h0_kind h0_word) fun (r_3177 : Int32) =>
   if (r_3177 : Int32) = 0 then (
    lt1 (y10_1 + 1) fun (x_3184 : Int32) =>
    y_X12_readSaid_3_10 h0_size h0_limit h0_to h0_from h0_kind h0_number h0_sign h0_fault h0_place h0_word h0_told h0_onesMany F_h0_tape F_h0_now F_h0_name n10 y10_0 x_3184
   ) else (
    if (y10_0 : Int32) = 0 then (
     if (h0_onesMany : Int32) = 20 then (
      lt2 (y_X12_bad 4 h0_kind) fun (r_3277 : Int32) (u_3279 : Int32) =>
      (0, h0_to, h0_from, h0_kind, h0_number, h0_sign, u_3279, h0_from, h0_word, h0_told, h0_onesMany)
     ) else (
      lt1 ((h0_onesMany : Int32) + 1) fun (x_3283 : Int32) =>
      lt6 (y_X12_go h0_size h0_limit h0_to h0_number h0_sign h0_word F_h0_tape) fun (u_3288 : Int32) (u_3289 : Int32) (u_3290 : Int32) (u_3291 : Int32) (u_3292 : Int32) (u_3293 : Int64) =>
      if (y10_1 : Int32) = 17 then (
       lt11 (y_X12_readNot_4 h0_size h0_limit u_3288 u_3289 u_3290 u_3291 u_3292 h0_fault h0_place u_3293 h0_told x_3283 F_h0_tape F_h0_now F_h0_name) fun (r_3432 : Int32) (u_3437 : Int32) (u_3438 : Int32) (u_3439 : Int32) (u_3440 : Int32) (u_3441 : Int32) (u_3442 : Int32) (u_3443 : Int32) (u_3444 : Int64) (u_3445 : Int32) (u_3447 : Int32) =>
       if (r_3432 : Int32) = 0 then (
        (0, u_3437, u_3438, u_3439, u_3440, u_3441, u_3442, u_3443, u_3444, u_3445, u_3447)
       ) else (
        (1, u_3437, u_3438, u_3439, u_3440, u_3441, u_3442, u_3443, u_3444, u_3445, u_3447)
       )
      ) else (
       if (21 : Int32) ≤ y10_1 then (
        if (22 : Int32) ≤ y10_1 then (
         lt10 (y_X12_readCompare y10_1 h0_size h0_limit u_3288 u_3289 u_3290 u_3291 u_3292 h0_fault h0_place u_3293 h0_told F_h0_tape) fun (r_3308 : Int32) (u_3310 : Int32) (u_3311 : Int32) (u_3312 : Int32) (u_3313 : Int32) (u_3314 : Int32) (u_3315 : Int32) (u_3316 : Int32) (u_3317 : Int64) (u_3318 : Int32) =>
         if (r_3308 : Int32) = 0 then (
          (0, u_3310, u_3311, u_3312, u_3313, u_3314, u_3315, u_3316, u_3317, u_3318, x_3283)
         ) else (
          (1, u_3310, u_3311, u_3312, u_3313, u_3314, u_3315, u_3316, u_3317, u_3318, x_3283)
         )
        ) else (
         lt10 (y_X12_readOf y10_1 h0_size h0_limit u_3288 u_3289 u_3290 u_3291 u_3292 h0_fault h0_place u_3293 h0_told F_h0_now F_h0_name F_h0_tape) fun (r_3361 : Int32) (u_3363 : Int32) (u_3364 : Int32) (u_3365 : Int32) (u_3366 : Int32) (u_3367 : Int32) (u_3368 : Int32) (u_3369 : Int32) (u_3370 : Int64) (u_3371 : Int32) =>
         if (r_3361 : Int32) = 0 then (
          (0, u_3363, u_3364, u_3365, u_3366, u_3367, u_3368, u_3369, u_3370, u_3371, x_3283)
         ) else (
          (1, u_3363, u_3364, u_3365, u_3366, u_3367, u_3368, u_3369, u_3370, u_3371, x_3283)
         )
        )
       ) else (
        lt1 ((50 : Int32) + y10_1) fun (x_3412 : Int32) =>
        (1, u_3288, u_3289, u_3290, u_3291, u_3292, h0_fault, h0_place, u_3293, h0_told, x_3283)
       )
      )
     )
    ) else (
     if (h0_onesMany : Int32) = 20 then (
      lt2 (y_X12_bad 4 h0_kind) fun (r_3193 : Int32) (u_3195 : Int32) =>
      (0, h0_to, h0_from, h0_kind, h0_number, h0_sign, u_3195, h0_from, h0_word, h0_told, h0_onesMany)
     ) else (
      lt1 ((h0_onesMany : Int32) + 1) fun (x_3199 : Int32) =>
      lt6 (y_X12_go h0_size h0_limit h0_to h0_number h0_sign h0_word F_h0_tape) fun (u_3204 : Int32) (u_3205 : Int32) (u_3206 : Int32) (u_3207 : Int32) (u_3208 : Int32) (u_3209 : Int64) =>
      lt11 (y_X12_readBracket_4 h0_size h0_limit u_3204 u_3205 u_3206 u_3207 u_3208 h0_fault h0_place u_3209 h0_told x_3199 F_h0_tape F_h0_now F_h0_name) fun (r_3216 : Int32) (u_3221 : Int32) (u_3222 : Int32) (u_3223 : Int32) (u_3224 : Int32) (u_3225 : Int32) (u_3226 : Int32) (u_3227 : Int32) (u_3228 : Int64) (u_3229 : Int32) (u_3231 : Int32) =>
      if (r_3216 : Int32) = 0 then (
       (0, u_3221, u_3222, u_3223, u_3224, u_3225, u_3226, u_3227, u_3228, u_3229, u_3231)
      ) else (
       (1, u_3221, u_3222, u_3223, u_3224, u_3225, u_3226, u_3227, u_3228, u_3229, u_3231)
      )
     )
    )
   )
  )
theorem y_X12_readSaid_3_10_s (h0_size : Int32) (h0_limit : Int32) (h0_to : Int32) (h0_from : Int32) (h0_kind : Int32) (h0_number : Int32) (h0_sign : Int32) (h0_fault : Int32) (h0_place : Int32) (h0_word : Int64) (h0_told : Int32) (h0_onesMany : Int32) (F_h0_tape : Nat → Int32) (F_h0_now : Nat → Int32) (F_h0_name : Nat → Int64) (n10 : Nat) (y10_0 : Int32) (y10_1 : Int32) : y_X12_readSaid_3_10 h0_size h0_limit h0_to h0_from h0_kind h0_number h0_sign h0_fault h0_place h0_word h0_told h0_onesMany F_h0_tape F_h0_now F_h0_name (n10 + 1) y10_0 y10_1 = (
  if (25 : Int32) < y10_1 then (
   if (y10_0 : Int32) = 0 then (
    lt2 (y_X12_bad 1 h0_kind) fun (r_3170 : Int32) (u_3172 : Int32) =>
    (0, h0_to, h0_from, h0_kind, h0_number, h0_sign, u_3172, h0_from, h0_word, h0_told, h0_onesMany)
   ) else (
    if (h0_onesMany : Int32) = 20 then (
     lt2 (y_X12_bad 4 h0_kind) fun (r_3090 : Int32) (u_3092 : Int32) =>
     (0, h0_to, h0_from, h0_kind, h0_number, h0_sign, u_3092, h0_from, h0_word, h0_told, h0_onesMany)
    ) else (
     lt1 ((h0_onesMany : Int32) + 1) fun (x_3096 : Int32) =>
     lt6 (y_X12_go h0_size h0_limit h0_to h0_number h0_sign h0_word F_h0_tape) fun (u_3101 : Int32) (u_3102 : Int32) (u_3103 : Int32) (u_3104 : Int32) (u_3105 : Int32) (u_3106 : Int64) =>
     lt11 (y_X12_readBracket_4 h0_size h0_limit u_3101 u_3102 u_3103 u_3104 u_3105 h0_fault h0_place u_3106 h0_told x_3096 F_h0_tape F_h0_now F_h0_name) fun (r_3113 : Int32) (u_3118 : Int32) (u_3119 : Int32) (u_3120 : Int32) (u_3121 : Int32) (u_3122 : Int32) (u_3123 : Int32) (u_3124 : Int32) (u_3125 : Int64) (u_3126 : Int32) (u_3128 : Int32) =>
     if (r_3113 : Int32) = 0 then (
      (0, u_3118, u_3119, u_3120, u_3121, u_3122, u_3123, u_3124, u_3125, u_3126, u_3128)
     ) else (
      (1, u_3118, u_3119, u_3120, u_3121, u_3122, u_3123, u_3124, u_3125, u_3126, u_3128)
     )
    )
   )
  ) else (
   lt1 (y_X12_isWord y10_1 h0_kind h0_word) fun (r_3177 : Int32) =>
   if (r_3177 : Int32) = 0 then (
    lt1 (y10_1 + 1) fun (x_3184 : Int32) =>
    y_X12_readSaid_3_10 h0_size h0_limit h0_to h0_from h0_kind h0_number h0_sign h0_fault h0_place h0_word h0_told h0_onesMany F_h0_tape F_h0_now F_h0_name n10 y10_0 x_3184
   ) else (
    if (y10_0 : Int32) = 0 then (
     if (h0_onesMany : Int32) = 20 then (
      lt2 (y_X12_bad 4 h0_kind) fun (r_3277 : Int32) (u_3279 : Int32) =>
      (0, h0_to, h0_from, h0_kind, h0_number, h0_sign, u_3279, h0_from, h0_word, h0_told, h0_onesMany)
     ) else (
      lt1 ((h0_onesMany : Int32) + 1) fun (x_3283 : Int32) =>
      lt6 (y_X12_go h0_size h0_limit h0_to h0_number h0_sign h0_word F_h0_tape) fun (u_3288 : Int32) (u_3289 : Int32) (u_3290 : Int32) (u_3291 : Int32) (u_3292 : Int32) (u_3293 : Int64) =>
      if (y10_1 : Int32) = 17 then (
       lt11 (y_X12_readNot_4 h0_size h0_limit u_3288 u_3289 u_3290 u_3291 u_3292 h0_fault h0_place u_3293 h0_told x_3283 F_h0_tape F_h0_now F_h0_name) fun (r_3432 : Int32) (u_3437 : Int32) (u_3438 : Int32) (u_3439 : Int32) (u_3440 : Int32) (u_3441 : Int32) (u_3442 : Int32) (u_3443 : Int32) (u_3444 : Int64) (u_3445 : Int32) (u_3447 : Int32) =>
       if (r_3432 : Int32) = 0 then (
        (0, u_3437, u_3438, u_3439, u_3440, u_3441, u_3442, u_3443, u_3444, u_3445, u_3447)
       ) else (
        (1, u_3437, u_3438, u_3439, u_3440, u_3441, u_3442, u_3443, u_3444, u_3445, u_3447)
       )
      ) else (
       if (21 : Int32) ≤ y10_1 then (
        if (22 : Int32) ≤ y10_1 then (
         lt10 (y_X12_readCompare y10_1 h0_size h0_limit u_3288 u_3289 u_3290 u_3291 u_3292 h0_fault h0_place u_3293 h0_told F_h0_tape) fun (r_3308 : Int32) (u_3310 : Int32) (u_3311 : Int32) (u_3312 : Int32) (u_3313 : Int32) (u_3314 : Int32) (u_3315 : Int32) (u_3316 : Int32) (u_3317 : Int64) (u_3318 : Int32) =>
         if (r_3308 : Int32) = 0 then (
          (0, u_3310, u_3311, u_3312, u_3313, u_3314, u_3315, u_3316, u_3317, u_3318, x_3283)
         ) else (
          (1, u_3310, u_3311, u_3312, u_3313, u_3314, u_3315, u_3316, u_3317, u_3318, x_3283)
         )
        ) else (
         lt10 (y_X12_readOf y10_1 h0_size h0_limit u_3288 u_3289 u_3290 u_3291 u_3292 h0_fault h0_place u_3293 h0_told F_h0_now F_h0_name F_h0_tape) fun (r_3361 : Int32) (u_3363 : Int32) (u_3364 : Int32) (u_3365 : Int32) (u_3366 : Int32) (u_3367 : Int32) (u_3368 : Int32) (u_3369 : Int32) (u_3370 : Int64) (u_3371 : Int32) =>
         if (r_3361 : Int32) = 0 then (
          (0, u_3363, u_3364, u_3365, u_3366, u_3367, u_3368, u_3369, u_3370, u_3371, x_3283)
         ) else (
          (1, u_3363, u_3364, u_3365, u_3366, u_3367, u_3368, u_3369, u_3370, u_3371, x_3283)
         )
        )
       ) else (
        lt1 ((50 : Int32) + y10_1) fun (x_3412 : Int32) =>
        (1, u_3288, u_3289, u_3290, u_3291, u_3292, h0_fault, h0_place, u_3293, h0_told, x_3283)
       )
      )
     )
    ) else (
     if (h0_onesMany : Int32) = 20 then (
      lt2 (y_X12_bad 4 h0_kind) fun (r_3193 : Int32) (u_3195 : Int32) =>
      (0, h0_to, h0_from, h0_kind, h0_number, h0_sign, u_3195, h0_from, h0_word, h0_told, h0_onesMany)
     ) else (
      lt1 ((h0_onesMany : Int32) + 1) fun (x_3199 : Int32) =>
      lt6 (y_X12_go h0_size h0_limit h0_to h0_number h0_sign h0_word F_h0_tape) fun (u_3204 : Int32) (u_3205 : Int32) (u_3206 : Int32) (u_3207 : Int32) (u_3208 : Int32) (u_3209 : Int64) =>
      lt11 (y_X12_readBracket_4 h0_size h0_limit u_3204 u_3205 u_3206 u_3207 u_3208 h0_fault h0_place u_3209 h0_told x_3199 F_h0_tape F_h0_now F_h0_name) fun (r_3216 : Int32) (u_3221 : Int32) (u_3222 : Int32) (u_3223 : Int32) (u_3224 : Int32) (u_3225 : Int32) (u_3226 : Int32) (u_3227 : Int32) (u_3228 : Int64) (u_3229 : Int32) (u_3231 : Int32) =>
      if (r_3216 : Int32) = 0 then (
       (0, u_3221, u_3222, u_3223, u_3224, u_3225, u_3226, u_3227, u_3228, u_3229, u_3231)
      ) else (
       (1, u_3221, u_3222, u_3223, u_3224, u_3225, u_3226, u_3227, u_3228, u_3229, u_3231)
      )
     )
    )
   )
  )) := rfl
def y_X12_readSaid_3 (h0_size : Int32) (h0_limit : Int32) (h0_to : Int32) (h0_from : Int32) (h0_kind : Int32) (h0_number : Int32) (h0_sign : Int32) (h0_fault : Int32) (h0_place : Int32) (h0_word : Int64) (h0_told : Int32) (h0_onesMany : Int32) (F_h0_tape : Nat → Int32) (F_h0_now : Nat → Int32) (F_h0_name : Nat → Int64)  : Int32 × Int32 × Int32 × Int32 × Int32 × Int32 × Int32 × Int32 × Int64 × Int32 × Int32 :=
  lt1 (y_X12_isSign 40 h0_kind h0_sign) fun (r_3488 : Int32) =>
  if (r_3488 : Int32) = 0 then (
   y_X12_readSaid_3_10 h0_size h0_limit h0_to h0_from h0_kind h0_number h0_sign h0_fault h0_place h0_word h0_told h0_onesMany F_h0_tape F_h0_now F_h0_name 10 0 17
  ) else (
   y_X12_readSaid_3_10 h0_size h0_limit h0_to h0_from h0_kind h0_number h0_sign h0_fault h0_place h0_word h0_told h0_onesMany F_h0_tape F_h0_now F_h0_name 10 1 17
  )
theorem y_X12_readSaid_3_s (h0_size : Int32) (h0_limit : Int32) (h0_to : Int32) (h0_from : Int32) (h0_kind : Int32) (h0_number : Int32) (h0_sign : Int32) (h0_fault : Int32) (h0_place : Int32) (h0_word : Int64) (h0_told : Int32) (h0_onesMany : Int32) (F_h0_tape : Nat → Int32) (F_h0_now : Nat → Int32) (F_h0_name : Nat → Int64)  : y_X12_readSaid_3 h0_size h0_limit h0_to h0_from h0_kind h0_number h0_sign h0_fault h0_place h0_word h0_told h0_onesMany F_h0_tape F_h0_now F_h0_name = (
  lt1 (y_X12_isSign 40 h0_kind h0_sign) fun (r_3488 : Int32) =>
  if (r_3488 : Int32) = 0 then (
   y_X12_readSaid_3_10 h0_size h0_limit h0_to h0_from h0_kind h0_number h0_sign h0_fault h0_place h0_word h0_told h0_onesMany F_h0_tape F_h0_now F_h0_name 10 0 17
  ) else (
   y_X12_readSaid_3_10 h0_size h0_limit h0_to h0_from h0_kind h0_number h0_sign h0_fault h0_place h0_word h0_told h0_onesMany F_h0_tape F_h0_now F_h0_name 10 1 17
  )) := rfl
def y_X12_readAnd_3_14 (h0_size : Int32) (h0_limit : Int32) (F_h0_tape : Nat → Int32) (F_h0_now : Nat → Int32) (F_h0_name : Nat → Int64) : Nat → Int32 → Int32 → Int32 → Int32 → Int32 → Int32 → Int32 → Int64 → Int32 → Int32 → (Int32 × Int32 × Int32 × Int32 × Int32 × Int32 × Int32 × Int32 × Int64 × Int32 × Int32)
 | 0, _, _, _, _, _, _, _, _, _, _ => (0, 0, 0, 0, 0, 0, 0, 0, 0, 0, 0)
 | n14 + 1, y14_1, y14_2, y14_3, y14_4, y14_5, y14_6, y14_7, y14_8, y14_9, y14_11 =>
  lt1 (y_X12_isWord_16 y14_3 y14_8) fun (r_243 : Int32) =>
  if (r_243 : Int32) = 0 then (
   (1, y14_1, y14_2, y14_3, y14_4, y14_5, y14_6, y14_7, y14_8, y14_9, y14_11)
  ) else (
   lt6 (y_X12_go h0_size h0_limit y14_1 y14_4 y14_5 y14_8 F_h0_tape) fun (u_252 : Int32) (u_253 : Int32) (u_254 : Int32) (u_255 : Int32) (u_256 : Int32) (u_257 : Int64) =>
   lt11 (y_X12_readSaid_3 h0_size h0_limit u_252 u_253 u_254 u_255 u_256 y14_6 y14_7 u_257 y14_9 y14_11 F_h0_tape F_h0_now F_h0_name) fun (r_264 : Int32) (u_269 : Int32) (u_270 : Int32) (u_271 : Int32) (u_272 : Int32) (u_273 : Int32) (u_274 : Int32) (u_275 : Int32) (u_276 : Int64) (u_277 : Int32) (u_279 : Int32) =>
   if (r_264 : Int32) = 0 then (
    (0, u_269, u_270, u_271, u_272, u_273, u_274, u_275, u_276, u_277, u_279)
   ) else (
    y_X12_readAnd_3_14 h0_size h0_limit F_h0_tape F_h0_now F_h0_name n14 u_269 u_270 u_271 u_272 u_273 u_274 u_275 u_276 u_277 u_279
   )
  )
theorem y_X12_readAnd_3_14_s (h0_size : Int32) (h0_limit : Int32) (F_h0_tape : Nat → Int32) (F_h0_now : Nat → Int32) (F_h0_name : Nat → Int64) (n14 : Nat) (y14_1 : Int32) (y14_2 : Int32) (y14_3 : Int32) (y14_4 : Int32) (y14_5 : Int32) (y14_6 : Int32) (y14_7 : Int32) (y14_8 : Int64) (y14_9 : Int32) (y14_11 : Int32) : y_X12_readAnd_3_14 h0_size h0_limit F_h0_tape F_h0_now F_h0_name (n14 + 1) y14_1 y14_2 y14_3 y14_4 y14_5 y14_6 y14_7 y14_8 y14_9 y14_11 = (
  lt1 (y_X12_isWord_16 y14_3 y14_8) fun (r_243 : Int32) =>
  if (r_243 : Int32) = 0 then (
   (1, y14_1, y14_2, y14_3, y14_4, y14_5, y14_6, y14_7, y14_8, y14_9, y14_11)
  ) else (
   lt6 (y_X12_go h0_size h0_limit y14_1 y14_4 y14_5 y14_8 F_h0_tape) fun (u_252 : Int32) (u_253 : Int32) (u_254 : Int32) (u_255 : Int32) (u_256 : Int32) (u_257 : Int64) =>
   lt11 (y_X12_readSaid_3 h0_size h0_limit u_252 u_253 u_254 u_255 u_256 y14_6 y14_7 u_257 y14_9 y14_11 F_h0_tape F_h0_now F_h0_name) fun (r_264 : Int32) (u_269 : Int32) (u_270 : Int32) (u_271 : Int32) (u_272 : Int32) (u_273 : Int32) (u_274 : Int32) (u_275 : Int32) (u_276 : Int64) (u_277 : Int32) (u_279 : Int32) =>
   if (r_264 : Int32) = 0 then (
    (0, u_269, u_270, u_271, u_272, u_273, u_274, u_275, u_276, u_277, u_279)
   ) else (
    y_X12_readAnd_3_14 h0_size h0_limit F_h0_tape F_h0_now F_h0_name n14 u_269 u_270 u_271 u_272 u_273 u_274 u_275 u_276 u_277 u_279
   )
  )) := rfl
def y_X12_readAnd_3 (h0_size : Int32) (h0_limit : Int32) (h0_to : Int32) (h0_from : Int32) (h0_kind : Int32) (h0_number : Int32) (h0_sign : Int32) (h0_fault : Int32) (h0_place : Int32) (h0_word : Int64) (h0_told : Int32) (h0_onesMany : Int32) (F_h0_tape : Nat → Int32) (F_h0_now : Nat → Int32) (F_h0_name : Nat → Int64)  : Int32 × Int32 × Int32 × Int32 × Int32 × Int32 × Int32 × Int32 × Int64 × Int32 × Int32 :=
  lt11 (y_X12_readSaid_3 h0_size h0_limit h0_to h0_from h0_kind h0_number h0_sign h0_fault h0_place h0_word h0_told h0_onesMany F_h0_tape F_h0_now F_h0_name) fun (r_340 : Int32) (u_345 : Int32) (u_346 : Int32) (u_347 : Int32) (u_348 : Int32) (u_349 : Int32) (u_350 : Int32) (u_351 : Int32) (u_352 : Int64) (u_353 : Int32) (u_355 : Int32) =>
  if (r_340 : Int32) = 0 then (
   (0, u_345, u_346, u_347, u_348, u_349, u_350, u_351, u_352, u_353, u_355)
  ) else (
   y_X12_readAnd_3_14 h0_size h0_limit F_h0_tape F_h0_now F_h0_name 60 u_345 u_346 u_347 u_348 u_349 u_350 u_351 u_352 u_353 u_355
  )
theorem y_X12_readAnd_3_s (h0_size : Int32) (h0_limit : Int32) (h0_to : Int32) (h0_from : Int32) (h0_kind : Int32) (h0_number : Int32) (h0_sign : Int32) (h0_fault : Int32) (h0_place : Int32) (h0_word : Int64) (h0_told : Int32) (h0_onesMany : Int32) (F_h0_tape : Nat → Int32) (F_h0_now : Nat → Int32) (F_h0_name : Nat → Int64)  : y_X12_readAnd_3 h0_size h0_limit h0_to h0_from h0_kind h0_number h0_sign h0_fault h0_place h0_word h0_told h0_onesMany F_h0_tape F_h0_now F_h0_name = (
  lt11 (y_X12_readSaid_3 h0_size h0_limit h0_to h0_from h0_kind h0_number h0_sign h0_fault h0_place h0_word h0_told h0_onesMany F_h0_tape F_h0_now F_h0_name) fun (r_340 : Int32) (u_345 : Int32) (u_346 : Int32) (u_347 : Int32) (u_348 : Int32) (u_349 : Int32) (u_350 : Int32) (u_351 : Int32) (u_352 : Int64) (u_353 : Int32) (u_355 : Int32) =>
  if (r_340 : Int32) = 0 then (
   (0, u_345, u_346, u_347, u_348, u_349, u_350, u_351, u_352, u_353, u_355)
  ) else (
   y_X12_readAnd_3_14 h0_size h0_limit F_h0_tape F_h0_now F_h0_name 60 u_345 u_346 u_347 u_348 u_349 u_350 u_351 u_352 u_353 u_355
  )) := rfl
def y_X12_readOr_3_14 (h0_size : Int32) (h0_limit : Int32) (F_h0_tape : Nat → Int32) (F_h0_now : Nat → Int32) (F_h0_name : Nat → Int64) : Nat → Int32 → Int32 → Int32 → Int32 → Int32 → Int32 → Int32 → Int64 → Int32 → Int32 → (Int32 × Int32 × Int32 × Int32 × Int32 × Int32 × Int32 × Int32 × Int64 × Int32 × Int32)
 | 0, _, _, _, _, _, _, _, _, _, _ => (0, 0, 0, 0, 0, 0, 0, 0, 0, 0, 0)
 | n14 + 1, y14_1, y14_2, y14_3, y14_4, y14_5, y14_6, y14_7, y14_8, y14_9, y14_11 =>
  lt1 (y_X12_isWord_15 y14_3 y14_8) fun (r_243 : Int32) =>
  if (r_243 : Int32) = 0 then (
   (1, y14_1, y14_2, y14_3, y14_4, y14_5, y14_6, y14_7, y14_8, y14_9, y14_11)
  ) else (
   lt6 (y_X12_go h0_size h0_limit y14_1 y14_4 y14_5 y14_8 F_h0_tape) fun (u_252 : Int32) (u_253 : Int32) (u_254 : Int32) (u_255 : Int32) (u_256 : Int32) (u_257 : Int64) =>
   lt11 (y_X12_readAnd_3 h0_size h0_limit u_252 u_253 u_254 u_255 u_256 y14_6 y14_7 u_257 y14_9 y14_11 F_h0_tape F_h0_now F_h0_name) fun (r_264 : Int32) (u_269 : Int32) (u_270 : Int32) (u_271 : Int32) (u_272 : Int32) (u_273 : Int32) (u_274 : Int32) (u_275 : Int32) (u_276 : Int64) (u_277 : Int32) (u_279 : Int32) =>
   if (r_264 : Int32) = 0 then (
    (0, u_269, u_270, u_271, u_272, u_273, u_274, u_275, u_276, u_277, u_279)
   ) else (
    y_X12_readOr_3_14 h0_size h0_limit F_h0_tape F_h0_now F_h0_name n14 u_269 u_270 u_271 u_272 u_273 u_274 u_275 u_276 u_277 u_279
   )
  )
theorem y_X12_readOr_3_14_s (h0_size : Int32) (h0_limit : Int32) (F_h0_tape : Nat → Int32) (F_h0_now : Nat → Int32) (F_h0_name : Nat → Int64) (n14 : Nat) (y14_1 : Int32) (y14_2 : Int32) (y14_3 : Int32) (y14_4 : Int32) (y14_5 : Int32) (y14_6 : Int32) (y14_7 : Int32) (y14_8 : Int64) (y14_9 : Int32) (y14_11 : Int32) : y_X12_readOr_3_14 h0_size h0_limit F_h0_tape F_h0_now F_h0_name (n14 + 1) y14_1 y14_2 y14_3 y14_4 y14_5 y14_6 y14_7 y14_8 y14_9 y14_11 = (
  lt1 (y_X12_isWord_15 y14_3 y14_8) fun (r_243 : Int32) =>
  if (r_243 : Int32) = 0 then (
   (1, y14_1, y14_2, y14_3, y14_4, y14_5, y14_6, y14_7, y14_8, y14_9, y14_11)
  ) else (
   lt6 (y_X12_go h0_size h0_limit y14_1 y14_4 y14_5 y14_8 F_h0_tape) fun (u_252 : Int32) (u_253 : Int32) (u_254 : Int32) (u_255 : Int32) (u_256 : Int32) (u_257 : Int64) =>
   lt11 (y_X12_readAnd_3 h0_size h0_limit u_252 u_253 u_254 u_255 u_256 y14_6 y14_7 u_257 y14_9 y14_11 F_h0_tape F_h0_now F_h0_name) fun (r_264 : Int32) (u_269 : Int32) (u_270 : Int32) (u_271 : Int32) (u_272 : Int32) (u_273 : Int32) (u_274 : Int32) (u_275 : Int32) (u_276 : Int64) (u_277 : Int32) (u_279 : Int32) =>
   if (r_264 : Int32) = 0 then (
    (0, u_269, u_270, u_271, u_272, u_273, u_274, u_275, u_276, u_277, u_279)
   ) else (
    y_X12_readOr_3_14 h0_size h0_limit F_h0_tape F_h0_now F_h0_name n14 u_269 u_270 u_271 u_272 u_273 u_274 u_275 u_276 u_277 u_279
   )
  )) := rfl
def y_X12_readOr_3 (h0_size : Int32) (h0_limit : Int32) (h0_to : Int32) (h0_from : Int32) (h0_kind : Int32) (h0_number : Int32) (h0_sign : Int32) (h0_fault : Int32) (h0_place : Int32) (h0_word : Int64) (h0_told : Int32) (h0_onesMany : Int32) (F_h0_tape : Nat → Int32) (F_h0_now : Nat → Int32) (F_h0_name : Nat → Int64)  : Int32 × Int32 × Int32 × Int32 × Int32 × Int32 × Int32 × Int32 × Int64 × Int32 × Int32 :=
  lt11 (y_X12_readAnd_3 h0_size h0_limit h0_to h0_from h0_kind h0_number h0_sign h0_fault h0_place h0_word h0_told h0_onesMany F_h0_tape F_h0_now F_h0_name) fun (r_340 : Int32) (u_345 : Int32) (u_346 : Int32) (u_347 : Int32) (u_348 : Int32) (u_349 : Int32) (u_350 : Int32) (u_351 : Int32) (u_352 : Int64) (u_353 : Int32) (u_355 : Int32) =>
  if (r_340 : Int32) = 0 then (
   (0, u_345, u_346, u_347, u_348, u_349, u_350, u_351, u_352, u_353, u_355)
  ) else (
   y_X12_readOr_3_14 h0_size h0_limit F_h0_tape F_h0_now F_h0_name 60 u_345 u_346 u_347 u_348 u_349 u_350 u_351 u_352 u_353 u_355
  )
theorem y_X12_readOr_3_s (h0_size : Int32) (h0_limit : Int32) (h0_to : Int32) (h0_from : Int32) (h0_kind : Int32) (h0_number : Int32) (h0_sign : Int32) (h0_fault : Int32) (h0_place : Int32) (h0_word : Int64) (h0_told : Int32) (h0_onesMany : Int32) (F_h0_tape : Nat → Int32) (F_h0_now : Nat → Int32) (F_h0_name : Nat → Int64)  : y_X12_readOr_3 h0_size h0_limit h0_to h0_from h0_kind h0_number h0_sign h0_fault h0_place h0_word h0_told h0_onesMany F_h0_tape F_h0_now F_h0_name = (
  lt11 (y_X12_readAnd_3 h0_size h0_limit h0_to h0_from h0_kind h0_number h0_sign h0_fault h0_place h0_word h0_told h0_onesMany F_h0_tape F_h0_now F_h0_name) fun (r_340 : Int32) (u_345 : Int32) (u_346 : Int32) (u_347 : Int32) (u_348 : Int32) (u_349 : Int32) (u_350 : Int32) (u_351 : Int32) (u_352 : Int64) (u_353 : Int32) (u_355 : Int32) =>
  if (r_340 : Int32) = 0 then (
   (0, u_345, u_346, u_347, u_348, u_349, u_350, u_351, u_352, u_353, u_355)
  ) else (
   y_X12_readOr_3_14 h0_size h0_limit F_h0_tape F_h0_now F_h0_name 60 u_345 u_346 u_347 u_348 u_349 u_350 u_351 u_352 u_353 u_355
  )) := rfl
def y_X12_readBracket_3 (h0_size : Int32) (h0_limit : Int32) (h0_to : Int32) (h0_from : Int32) (h0_kind : Int32) (h0_number : Int32) (h0_sign : Int32) (h0_fault : Int32) (h0_place : Int32) (h0_word : Int64) (h0_told : Int32) (h0_onesMany : Int32) (F_h0_tape : Nat → Int32) (F_h0_now : Nat → Int32) (F_h0_name : Nat → Int64)  : Int32 × Int32 × Int32 × Int32 × Int32 × Int32 × Int32 × Int32 × Int64 × Int32 × Int32 :=
  lt11 (y_X12_readOr_3 h0_size h0_limit h0_to h0_from h0_kind h0_number h0_sign h0_fault h0_place h0_word h0_told h0_onesMany F_h0_tape F_h0_now F_h0_name) fun (r_80 : Int32) (u_85 : Int32) (u_86 : Int32) (u_87 : Int32) (u_88 : Int32) (u_89 : Int32) (u_90 : Int32) (u_91 : Int32) (u_92 : Int64) (u_93 : Int32) (u_95 : Int32) =>
  if (r_80 : Int32) = 0 then (
   (0, u_85, u_86, u_87, u_88, u_89, u_90, u_91, u_92, u_93, u_95)
  ) else (
   lt1 (y_X12_isSign 41 u_87 u_89) fun (r_130 : Int32) =>
   if (r_130 : Int32) = 0 then (
    lt2 (y_X12_bad 1 u_87) fun (r_139 : Int32) (u_141 : Int32) =>
    (0, u_85, u_86, u_87, u_88, u_89, u_141, u_86, u_92, u_93, u_95)
   ) else (
    lt6 (y_X12_go h0_size h0_limit u_85 u_88 u_89 u_92 F_h0_tape) fun (u_148 : Int32) (u_149 : Int32) (u_150 : Int32) (u_151 : Int32) (u_152 : Int32) (u_153 : Int64) =>
    (1, u_148, u_149, u_150, u_151, u_152, u_90, u_91, u_153, u_93, u_95)
   )
  )
theorem y_X12_readBracket_3_s (h0_size : Int32) (h0_limit : Int32) (h0_to : Int32) (h0_from : Int32) (h0_kind : Int32) (h0_number : Int32) (h0_sign : Int32) (h0_fault : Int32) (h0_place : Int32) (h0_word : Int64) (h0_told : Int32) (h0_onesMany : Int32) (F_h0_tape : Nat → Int32) (F_h0_now : Nat → Int32) (F_h0_name : Nat → Int64)  : y_X12_readBracket_3 h0_size h0_limit h0_to h0_from h0_kind h0_number h0_sign h0_fault h0_place h0_word h0_told h0_onesMany F_h0_tape F_h0_now F_h0_name = (
  lt11 (y_X12_readOr_3 h0_size h0_limit h0_to h0_from h0_kind h0_number h0_sign h0_fault h0_place h0_word h0_told h0_onesMany F_h0_tape F_h0_now F_h0_name) fun (r_80 : Int32) (u_85 : Int32) (u_86 : Int32) (u_87 : Int32) (u_88 : Int32) (u_89 : Int32) (u_90 : Int32) (u_91 : Int32) (u_92 : Int64) (u_93 : Int32) (u_95 : Int32) =>
  if (r_80 : Int32) = 0 then (
   (0, u_85, u_86, u_87, u_88, u_89, u_90, u_91, u_92, u_93, u_95)
  ) else (
   lt1 (y_X12_isSign 41 u_87 u_89) fun (r_130 : Int32) =>
   if (r_130 : Int32) = 0 then (
    lt2 (y_X12_bad 1 u_87) fun (r_139 : Int32) (u_141 : Int32) =>
    (0, u_85, u_86, u_87, u_88, u_89, u_141, u_86, u_92, u_93, u_95)
   ) else (
    lt6 (y_X12_go h0_size h0_limit u_85 u_88 u_89 u_92 F_h0_tape) fun (u_148 : Int32) (u_149 : Int32) (u_150 : Int32) (u_151 : Int32) (u_152 : Int32) (u_153 : Int64) =>
    (1, u_148, u_149, u_150, u_151, u_152, u_90, u_91, u_153, u_93, u_95)
   )
  )) := rfl
def y_X12_readNot_3 (h0_size : Int32) (h0_limit : Int32) (h0_to : Int32) (h0_from : Int32) (h0_kind : Int32) (h0_number : Int32) (h0_sign : Int32) (h0_fault : Int32) (h0_place : Int32) (h0_word : Int64) (h0_told : Int32) (h0_onesMany : Int32) (F_h0_tape : Nat → Int32) (F_h0_now : Nat → Int32) (F_h0_name : Nat → Int64)  : Int32 × Int32 × Int32 × Int32 × Int32 × Int32 × Int32 × Int32 × Int64 × Int32 × Int32 :=
  lt11 (y_X12_readSaid_3 h0_size h0_limit h0_to h0_from h0_kind h0_number h0_sign h0_fault h0_place h0_word h0_told h0_onesMany F_h0_tape F_h0_now F_h0_name) fun (r_68 : Int32) (u_73 : Int32) (u_74 : Int32) (u_75 : Int32) (u_76 : Int32) (u_77 : Int32) (u_78 : Int32) (u_79 : Int32) (u_80 : Int64) (u_81 : Int32) (u_83 : Int32) =>
  if (r_68 : Int32) = 0 then (
   (0, u_73, u_74, u_75, u_76, u_77, u_78, u_79, u_80, u_81, u_83)
  ) else (
   (1, u_73, u_74, u_75, u_76, u_77, u_78, u_79, u_80, u_81, u_83)
  )
theorem y_X12_readNot_3_s (h0_size : Int32) (h0_limit : Int32) (h0_to : Int32) (h0_from : Int32) (h0_kind : Int32) (h0_number : Int32) (h0_sign : Int32) (h0_fault : Int32) (h0_place : Int32) (h0_word : Int64) (h0_told : Int32) (h0_onesMany : Int32) (F_h0_tape : Nat → Int32) (F_h0_now : Nat → Int32) (F_h0_name : Nat → Int64)  : y_X12_readNot_3 h0_size h0_limit h0_to h0_from h0_kind h0_number h0_sign h0_fault h0_place h0_word h0_told h0_onesMany F_h0_tape F_h0_now F_h0_name = (
  lt11 (y_X12_readSaid_3 h0_size h0_limit h0_to h0_from h0_kind h0_number h0_sign h0_fault h0_place h0_word h0_told h0_onesMany F_h0_tape F_h0_now F_h0_name) fun (r_68 : Int32) (u_73 : Int32) (u_74 : Int32) (u_75 : Int32) (u_76 : Int32) (u_77 : Int32) (u_78 : Int32) (u_79 : Int32) (u_80 : Int64) (u_81 : Int32) (u_83 : Int32) =>
  if (r_68 : Int32) = 0 then (
   (0, u_73, u_74, u_75, u_76, u_77, u_78, u_79, u_80, u_81, u_83)
  ) else (
   (1, u_73, u_74, u_75, u_76, u_77, u_78, u_79, u_80, u_81, u_83)
  )) := rfl
def y_X12_readSaid_2_10 (h0_size : Int32) (h0_limit : Int32) (h0_to : Int32) (h0_from : Int32) (h0_kind : Int32) (h0_number : Int32) (h0_sign : Int32) (h0_fault : Int32) (h0_place : Int32) (h0_word : Int64) (h0_told : Int32) (h0_onesMany : Int32) (F_h0_tape : Nat → Int32) (F_h0_now : Nat → Int32) (F_h0_name : Nat → Int64) : Nat → Int32 → Int32 → (Int32 × Int32 × Int32 × Int32 × Int32 × Int32 × Int32 × Int32 × Int64 × Int32 × Int32)
 | 0, _, _ => (0, 0, 0, 0, 0, 0, 0, 0, 0, 0, 0)
 | n10 + 1, y10_0, y10_1 =>
  if (25 : Int32) < y10_1 then (
   if (y10_0 : Int32) = 0 then (
    lt2 (y_X12_bad 1 h0_kind) fun (r_3170 : Int32) (u_3172 : Int32) =>
    (0, h0_to, h0_from, h0_kind, h0_number, h0_sign, u_3172, h0_from, h0_word, h0_told, h0_onesMany)
   ) else (
    if (h0_onesMany : Int32) = 20 then (
     lt2 (y_X12_bad 4 h0_kind) fun (r_3090 : Int32) (u_3092 : Int32) =>
     (0, h0_to, h0_from, h0_kind, h0_number, h0_sign, u_3092, h0_from, h0_word, h0_told, h0_onesMany)
    ) else (
     lt1 ((h0_onesMany : Int32) + 1) fun (x_3096 : Int32) =>
     lt6 (y_X12_go h0_size h0_limit h0_to h0_number h0_sign h0_word F_h0_tape) fun (u_3101 : Int32) (u_3102 : Int32) (u_3103 : Int32) (u_3104 : Int32) (u_3105 : Int32) (u_3106 : Int64) =>
     lt11 (y_X12_readBracket_3 h0_size h0_limit u_3101 u_3102 u_3103 u_3104 u_3105 h0_fault h0_place u_3106 h0_told x_3096 F_h0_tape F_h0_now F_h0_name) fun (r_3113 : Int32) (u_3118 : Int32) (u_3119 : Int32) (u_3120 : Int32) (u_3121 : Int32) (u_3122 : Int32) (u_3123 : Int32) (u_3124 : Int32) (u_3125 : Int64) (u_3126 : Int32) (u_3128 : Int32) =>
     if (r_3113 : Int32) = 0 then (
      (0, u_3118, u_3119, u_3120, u_3121, u_3122, u_3123, u_3124, u_3125, u_3126, u_3128)
     ) else (
      (1, u_3118, u_3119, u_3120, u_3121, u_3122, u_3123, u_3124, u_3125, u_3126, u_3128)
     )
    )
   )
  ) else (
   lt1 (y_X12_isWord y10_1 h0_kind h0_word) fun (r_3177 : Int32) =>
   if (r_3177 : Int32) = 0 then (
    lt1 (y10_1 + 1) fun (x_3184 : Int32) =>
    y_X12_readSaid_2_10 h0_size h0_limit h0_to h0_from h0_kind h0_number h0_sign h0_fault h0_place h0_word h0_told h0_onesMany F_h0_tape F_h0_now F_h0_name n10 y10_0 x_3184
   ) else (
    if (y10_0 : Int32) = 0 then (
     if (h0_onesMany : Int32) = 20 then (
      lt2 (y_X12_bad 4 h0_kind) fun (r_3277 : Int32) (u_3279 : Int32) =>
      (0, h0_to, h0_from, h0_kind, h0_number, h0_sign, u_3279, h0_from, h0_word, h0_told, h0_onesMany)
     ) else (
      lt1 ((h0_onesMany : Int32) + 1) fun (x_3283 : Int32) =>
      lt6 (y_X12_go h0_size h0_limit h0_to h0_number h0_sign h0_word F_h0_tape) fun (u_3288 : Int32) (u_3289 : Int32) (u_3290 : Int32) (u_3291 : Int32) (u_3292 : Int32) (u_3293 : Int64) =>
      if (y10_1 : Int32) = 17 then (
       lt11 (y_X12_readNot_3 h0_size h0_limit u_3288 u_3289 u_3290 u_3291 u_3292 h0_fault h0_place u_3293 h0_told x_3283 F_h0_tape F_h0_now F_h0_name) fun (r_3432 : Int32) (u_3437 : Int32) (u_3438 : Int32) (u_3439 : Int32) (u_3440 : Int32) (u_3441 : Int32) (u_3442 : Int32) (u_3443 : Int32) (u_3444 : Int64) (u_3445 : Int32) (u_3447 : Int32) =>
       if (r_3432 : Int32) = 0 then (
        (0, u_3437, u_3438, u_3439, u_3440, u_3441, u_3442, u_3443, u_3444, u_3445, u_3447)
       ) else (
        (1, u_3437, u_3438, u_3439, u_3440, u_3441, u_3442, u_3443, u_3444, u_3445, u_3447)
       )
      ) else (
       if (21 : Int32) ≤ y10_1 then (
        if (22 : Int32) ≤ y10_1 then (
         lt10 (y_X12_readCompare y10_1 h0_size h0_limit u_3288 u_3289 u_3290 u_3291 u_3292 h0_fault h0_place u_3293 h0_told F_h0_tape) fun (r_3308 : Int32) (u_3310 : Int32) (u_3311 : Int32) (u_3312 : Int32) (u_3313 : Int32) (u_3314 : Int32) (u_3315 : Int32) (u_3316 : Int32) (u_3317 : Int64) (u_3318 : Int32) =>
         if (r_3308 : Int32) = 0 then (
          (0, u_3310, u_3311, u_3312, u_3313, u_3314, u_3315, u_3316, u_3317, u_3318, x_3283)
         ) else (
          (1, u_3310, u_3311, u_3312, u_3313, u_3314, u_3315, u_3316, u_3317, u_3318, x_3283)
         )
        ) else (
         lt10 (y_X12_readOf y10_1 h0_size h0_limit u_3288 u_3289 u_3290 u_3291 u_3292 h0_fault h0_place u_3293 h0_told F_h0_now F_h0_name F_h0_tape) fun (r_3361 : Int32) (u_3363 : Int32) (u_3364 : Int32) (u_3365 : Int32) (u_3366 : Int32) (u_3367 : Int32) (u_3368 : Int32) (u_3369 : Int32) (u_3370 : Int64) (u_3371 : Int32) =>
         if (r_3361 : Int32) = 0 then (
          (0, u_3363, u_3364, u_3365, u_3366, u_3367, u_3368, u_3369, u_3370, u_3371, x_3283)
         ) else (
          (1, u_3363, u_3364, u_3365, u_3366, u_3367, u_3368, u_3369, u_3370, u_3371, x_3283)
         )
        )
       ) else (
        lt1 ((50 : Int32) + y10_1) fun (x_3412 : Int32) =>
        (1, u_3288, u_3289, u_3290, u_3291, u_3292, h0_fault, h0_place, u_3293, h0_told, x_3283)
       )
      )
     )
    ) else (
     if (h0_onesMany : Int32) = 20 then (
      lt2 (y_X12_bad 4 h0_kind) fun (r_3193 : Int32) (u_3195 : Int32) =>
      (0, h0_to, h0_from, h0_kind, h0_number, h0_sign, u_3195, h0_from, h0_word, h0_told, h0_onesMany)
     ) else (
      lt1 ((h0_onesMany : Int32) + 1) fun (x_3199 : Int32) =>
      lt6 (y_X12_go h0_size h0_limit h0_to h0_number h0_sign h0_word F_h0_tape) fun (u_3204 : Int32) (u_3205 : Int32) (u_3206 : Int32) (u_3207 : Int32) (u_3208 : Int32) (u_3209 : Int64) =>
      lt11 (y_X12_readBracket_3 h0_size h0_limit u_3204 u_3205 u_3206 u_3207 u_3208 h0_fault h0_place u_3209 h0_told x_3199 F_h0_tape F_h0_now F_h0_name) fun (r_3216 : Int32) (u_3221 : Int32) (u_3222 : Int32) (u_3223 : Int32) (u_3224 : Int32) (u_3225 : Int32) (u_3226 : Int32) (u_3227 : Int32) (u_3228 : Int64) (u_3229 : Int32) (u_3231 : Int32) =>
      if (r_3216 : Int32) = 0 then (
       (0, u_3221, u_3222, u_3223, u_3224, u_3225, u_3226, u_3227, u_3228, u_3229, u_3231)
      ) else (
       (1, u_3221, u_3222, u_3223, u_3224, u_3225, u_3226, u_3227, u_3228, u_3229, u_3231)
      )
     )
    )
   )
  )
theorem y_X12_readSaid_2_10_s (h0_size : Int32) (h0_limit : Int32) (h0_to : Int32) (h0_from : Int32) (h0_kind : Int32) (h0_number : Int32) (h0_sign : Int32) (h0_fault : Int32) (h0_place : Int32) (h0_word : Int64) (h0_told : Int32) (h0_onesMany : Int32) (F_h0_tape : Nat → Int32) (F_h0_now : Nat → Int32) (F_h0_name : Nat → Int64) (n10 : Nat) (y10_0 : Int32) (y10_1 : Int32) : y_X12_readSaid_2_10 h0_size h0_limit h0_to h0_from h0_kind h0_number h0_sign h0_fault h0_place h0_word h0_told h0_onesMany F_h0_tape F_h0_now F_h0_name (n10 + 1) y10_0 y10_1 = (
  if (25 : Int32) < y10_1 then (
   if (y10_0 : Int32) = 0 then (
    lt2 (y_X12_bad 1 h0_kind) fun (r_3170 : Int32) (u_3172 : Int32) =>
    (0, h0_to, h0_from, h0_kind, h0_number, h0_sign, u_3172, h0_from, h0_word, h0_told, h0_onesMany)
   ) else (
    if (h0_onesMany : Int32) = 20 then (
     lt2 (y_X12_bad 4 h0_kind) fun (r_3090 : Int32) (u_3092 : Int32) =>
     (0, h0_to, h0_from, h0_kind, h0_number, h0_sign, u_3092, h0_from, h0_word, h0_told, h0_onesMany)
    ) else (
     lt1 ((h0_onesMany : Int32) + 1) fun (x_3096 : Int32) =>
     lt6 (y_X12_go h0_size h0_limit h0_to h0_number h0_sign h0_word F_h0_tape) fun (u_3101 : Int32) (u_3102 : Int32) (u_3103 : Int32) (u_3104 : Int32) (u_3105 : Int32) (u_3106 : Int64) =>
     lt11 (y_X12_readBracket_3 h0_size h0_limit u_3101 u_3102 u_3103 u_3104 u_3105 h0_fault h0_place u_3106 h0_told x_3096 F_h0_tape F_h0_now F_h0_name) fun (r_3113 : Int32) (u_3118 : Int32) (u_3119 : Int32) (u_3120 : Int32) (u_3121 : Int32) (u_3122 : Int32) (u_3123 : Int32) (u_3124 : Int32) (u_3125 : Int64) (u_3126 : Int32) (u_3128 : Int32) =>
     if (r_3113 : Int32) = 0 then (
      (0, u_3118, u_3119, u_3120, u_3121, u_3122, u_3123, u_3124, u_3125, u_3126, u_3128)
     ) else (
      (1, u_3118, u_3119, u_3120, u_3121, u_3122, u_3123, u_3124, u_3125, u_3126, u_3128)
     )
    )
   )
  ) else (
   lt1 (y_X12_isWord y10_1 h0_kind h0_word) fun (r_3177 : Int32) =>
   if (r_3177 : Int32) = 0 then (
    lt1 (y10_1 + 1) fun (x_3184 : Int32) =>
    y_X12_readSaid_2_10 h0_size h0_limit h0_to h0_from h0_kind h0_number h0_sign h0_fault h0_place h0_word h0_told h0_onesMany F_h0_tape F_h0_now F_h0_name n10 y10_0 x_3184
   ) else (
    if (y10_0 : Int32) = 0 then (
     if (h0_onesMany : Int32) = 20 then (
      lt2 (y_X12_bad 4 h0_kind) fun (r_3277 : Int32) (u_3279 : Int32) =>
      (0, h0_to, h0_from, h0_kind, h0_number, h0_sign, u_3279, h0_from, h0_word, h0_told, h0_onesMany)
     ) else (
      lt1 ((h0_onesMany : Int32) + 1) fun (x_3283 : Int32) =>
      lt6 (y_X12_go h0_size h0_limit h0_to h0_number h0_sign h0_word F_h0_tape) fun (u_3288 : Int32) (u_3289 : Int32) (u_3290 : Int32) (u_3291 : Int32) (u_3292 : Int32) (u_3293 : Int64) =>
      if (y10_1 : Int32) = 17 then (
       lt11 (y_X12_readNot_3 h0_size h0_limit u_3288 u_3289 u_3290 u_3291 u_3292 h0_fault h0_place u_3293 h0_told x_3283 F_h0_tape F_h0_now F_h0_name) fun (r_3432 : Int32) (u_3437 : Int32) (u_3438 : Int32) (u_3439 : Int32) (u_3440 : Int32) (u_3441 : Int32) (u_3442 : Int32) (u_3443 : Int32) (u_3444 : Int64) (u_3445 : Int32) (u_3447 : Int32) =>
       if (r_3432 : Int32) = 0 then (
        (0, u_3437, u_3438, u_3439, u_3440, u_3441, u_3442, u_3443, u_3444, u_3445, u_3447)
       ) else (
        (1, u_3437, u_3438, u_3439, u_3440, u_3441, u_3442, u_3443, u_3444, u_3445, u_3447)
       )
      ) else (
       if (21 : Int32) ≤ y10_1 then (
        if (22 : Int32) ≤ y10_1 then (
         lt10 (y_X12_readCompare y10_1 h0_size h0_limit u_3288 u_3289 u_3290 u_3291 u_3292 h0_fault h0_place u_3293 h0_told F_h0_tape) fun (r_3308 : Int32) (u_3310 : Int32) (u_3311 : Int32) (u_3312 : Int32) (u_3313 : Int32) (u_3314 : Int32) (u_3315 : Int32) (u_3316 : Int32) (u_3317 : Int64) (u_3318 : Int32) =>
         if (r_3308 : Int32) = 0 then (
          (0, u_3310, u_3311, u_3312, u_3313, u_3314, u_3315, u_3316, u_3317, u_3318, x_3283)
         ) else (
          (1, u_3310, u_3311, u_3312, u_3313, u_3314, u_3315, u_3316, u_3317, u_3318, x_3283)
         )
        ) else (
         lt10 (y_X12_readOf y10_1 h0_size h0_limit u_3288 u_3289 u_3290 u_3291 u_3292 h0_fault h0_place u_3293 h0_told F_h0_now F_h0_name F_h0_tape) fun (r_3361 : Int32) (u_3363 : Int32) (u_3364 : Int32) (u_3365 : Int32) (u_3366 : Int32) (u_3367 : Int32) (u_3368 : Int32) (u_3369 : Int32) (u_3370 : Int64) (u_3371 : Int32) =>
         if (r_3361 : Int32) = 0 then (
          (0, u_3363, u_3364, u_3365, u_3366, u_3367, u_3368, u_3369, u_3370, u_3371, x_3283)
         ) else (
          (1, u_3363, u_3364, u_3365, u_3366, u_3367, u_3368, u_3369, u_3370, u_3371, x_3283)
         )
        )
       ) else (
        lt1 ((50 : Int32) + y10_1) fun (x_3412 : Int32) =>
        (1, u_3288, u_3289, u_3290, u_3291, u_3292, h0_fault, h0_place, u_3293, h0_told, x_3283)
       )
      )
     )
    ) else (
     if (h0_onesMany : Int32) = 20 then (
      lt2 (y_X12_bad 4 h0_kind) fun (r_3193 : Int32) (u_3195 : Int32) =>
      (0, h0_to, h0_from, h0_kind, h0_number, h0_sign, u_3195, h0_from, h0_word, h0_told, h0_onesMany)
     ) else (
      lt1 ((h0_onesMany : Int32) + 1) fun (x_3199 : Int32) =>
      lt6 (y_X12_go h0_size h0_limit h0_to h0_number h0_sign h0_word F_h0_tape) fun (u_3204 : Int32) (u_3205 : Int32) (u_3206 : Int32) (u_3207 : Int32) (u_3208 : Int32) (u_3209 : Int64) =>
      lt11 (y_X12_readBracket_3 h0_size h0_limit u_3204 u_3205 u_3206 u_3207 u_3208 h0_fault h0_place u_3209 h0_told x_3199 F_h0_tape F_h0_now F_h0_name) fun (r_3216 : Int32) (u_3221 : Int32) (u_3222 : Int32) (u_3223 : Int32) (u_3224 : Int32) (u_3225 : Int32) (u_3226 : Int32) (u_3227 : Int32) (u_3228 : Int64) (u_3229 : Int32) (u_3231 : Int32) =>
      if (r_3216 : Int32) = 0 then (
       (0, u_3221, u_3222, u_3223, u_3224, u_3225, u_3226, u_3227, u_3228, u_3229, u_3231)
      ) else (
       (1, u_3221, u_3222, u_3223, u_3224, u_3225, u_3226, u_3227, u_3228, u_3229, u_3231)
      )
     )
    )
   )
  )) := rfl
def y_X12_readSaid_2 (h0_size : Int32) (h0_limit : Int32) (h0_to : Int32) (h0_from : Int32) (h0_kind : Int32) (h0_number : Int32) (h0_sign : Int32) (h0_fault : Int32) (h0_place : Int32) (h0_word : Int64) (h0_told : Int32) (h0_onesMany : Int32) (F_h0_tape : Nat → Int32) (F_h0_now : Nat → Int32) (F_h0_name : Nat → Int64)  : Int32 × Int32 × Int32 × Int32 × Int32 × Int32 × Int32 × Int32 × Int64 × Int32 × Int32 :=
  lt1 (y_X12_isSign 40 h0_kind h0_sign) fun (r_3488 : Int32) =>
  if (r_3488 : Int32) = 0 then (
   y_X12_readSaid_2_10 h0_size h0_limit h0_to h0_from h0_kind h0_number h0_sign h0_fault h0_place h0_word h0_told h0_onesMany F_h0_tape F_h0_now F_h0_name 10 0 17
  ) else (
   y_X12_readSaid_2_10 h0_size h0_limit h0_to h0_from h0_kind h0_number h0_sign h0_fault h0_place h0_word h0_told h0_onesMany F_h0_tape F_h0_now F_h0_name 10 1 17
  )
theorem y_X12_readSaid_2_s (h0_size : Int32) (h0_limit : Int32) (h0_to : Int32) (h0_from : Int32) (h0_kind : Int32) (h0_number : Int32) (h0_sign : Int32) (h0_fault : Int32) (h0_place : Int32) (h0_word : Int64) (h0_told : Int32) (h0_onesMany : Int32) (F_h0_tape : Nat → Int32) (F_h0_now : Nat → Int32) (F_h0_name : Nat → Int64)  : y_X12_readSaid_2 h0_size h0_limit h0_to h0_from h0_kind h0_number h0_sign h0_fault h0_place h0_word h0_told h0_onesMany F_h0_tape F_h0_now F_h0_name = (
  lt1 (y_X12_isSign 40 h0_kind h0_sign) fun (r_3488 : Int32) =>
  if (r_3488 : Int32) = 0 then (
   y_X12_readSaid_2_10 h0_size h0_limit h0_to h0_from h0_kind h0_number h0_sign h0_fault h0_place h0_word h0_told h0_onesMany F_h0_tape F_h0_now F_h0_name 10 0 17
  ) else (
   y_X12_readSaid_2_10 h0_size h0_limit h0_to h0_from h0_kind h0_number h0_sign h0_fault h0_place h0_word h0_told h0_onesMany F_h0_tape F_h0_now F_h0_name 10 1 17
  )) := rfl
def y_X12_readAnd_2_14 (h0_size : Int32) (h0_limit : Int32) (F_h0_tape : Nat → Int32) (F_h0_now : Nat → Int32) (F_h0_name : Nat → Int64) : Nat → Int32 → Int32 → Int32 → Int32 → Int32 → Int32 → Int32 → Int64 → Int32 → Int32 → (Int32 × Int32 × Int32 × Int32 × Int32 × Int32 × Int32 × Int32 × Int64 × Int32 × Int32)
 | 0, _, _, _, _, _, _, _, _, _, _ => (0, 0, 0, 0, 0, 0, 0, 0, 0, 0, 0)
 | n14 + 1, y14_1, y14_2, y14_3, y14_4, y14_5, y14_6, y14_7, y14_8, y14_9, y14_11 =>
  lt1 (y_X12_isWord_16 y14_3 y14_8) fun (r_243 : Int32) =>
  if (r_243 : Int32) = 0 then (
   (1, y14_1, y14_2, y14_3, y14_4, y14_5, y14_6, y14_7, y14_8, y14_9, y14_11)
  ) else (
   lt6 (y_X12_go h0_size h0_limit y14_1 y14_4 y14_5 y14_8 F_h0_tape) fun (u_252 : Int32) (u_253 : Int32) (u_254 : Int32) (u_255 : Int32) (u_256 : Int32) (u_257 : Int64) =>
   lt11 (y_X12_readSaid_2 h0_size h0_limit u_252 u_253 u_254 u_255 u_256 y14_6 y14_7 u_257 y14_9 y14_11 F_h0_tape F_h0_now F_h0_name) fun (r_264 : Int32) (u_269 : Int32) (u_270 : Int32) (u_271 : Int32) (u_272 : Int32) (u_273 : Int32) (u_274 : Int32) (u_275 : Int32) (u_276 : Int64) (u_277 : Int32) (u_279 : Int32) =>
   if (r_264 : Int32) = 0 then (
    (0, u_269, u_270, u_271, u_272, u_273, u_274, u_275, u_276, u_277, u_279)
   ) else (
    y_X12_readAnd_2_14 h0_size h0_limit F_h0_tape F_h0_now F_h0_name n14 u_269 u_270 u_271 u_272 u_273 u_274 u_275 u_276 u_277 u_279
   )
  )
theorem y_X12_readAnd_2_14_s (h0_size : Int32) (h0_limit : Int32) (F_h0_tape : Nat → Int32) (F_h0_now : Nat → Int32) (F_h0_name : Nat → Int64) (n14 : Nat) (y14_1 : Int32) (y14_2 : Int32) (y14_3 : Int32) (y14_4 : Int32) (y14_5 : Int32) (y14_6 : Int32) (y14_7 : Int32) (y14_8 : Int64) (y14_9 : Int32) (y14_11 : Int32) : y_X12_readAnd_2_14 h0_size h0_limit F_h0_tape F_h0_now F_h0_name (n14 + 1) y14_1 y14_2 y14_3 y14_4 y14_5 y14_6 y14_7 y14_8 y14_9 y14_11 = (
  lt1 (y_X12_isWord_16 y14_3 y14_8) fun (r_243 : Int32) =>
  if (r_243 : Int32) = 0 then (
   (1, y14_1, y14_2, y14_3, y14_4, y14_5, y14_6, y14_7, y14_8, y14_9, y14_11)
  ) else (
   lt6 (y_X12_go h0_size h0_limit y14_1 y14_4 y14_5 y14_8 F_h0_tape) fun (u_252 : Int32) (u_253 : Int32) (u_254 : Int32) (u_255 : Int32) (u_256 : Int32) (u_257 : Int64) =>
   lt11 (y_X12_readSaid_2 h0_size h0_limit u_252 u_253 u_254 u_255 u_256 y14_6 y14_7 u_257 y14_9 y14_11 F_h0_tape F_h0_now F_h0_name) fun (r_264 : Int32) (u_269 : Int32) (u_270 : Int32) (u_271 : Int32) (u_272 : Int32) (u_273 : Int32) (u_274 : Int32) (u_275 : Int32) (u_276 : Int64) (u_277 : Int32) (u_279 : Int32) =>
   if (r_264 : Int32) = 0 then (
    (0, u_269, u_270, u_271, u_272, u_273, u_274, u_275, u_276, u_277, u_279)
   ) else (
    y_X12_readAnd_2_14 h0_size h0_limit F_h0_tape F_h0_now F_h0_name n14 u_269 u_270 u_271 u_272 u_273 u_274 u_275 u_276 u_277 u_279
   )
  )) := rfl
def y_X12_readAnd_2 (h0_size : Int32) (h0_limit : Int32) (h0_to : Int32) (h0_from : Int32) (h0_kind : Int32) (h0_number : Int32) (h0_sign : Int32) (h0_fault : Int32) (h0_place : Int32) (h0_word : Int64) (h0_told : Int32) (h0_onesMany : Int32) (F_h0_tape : Nat → Int32) (F_h0_now : Nat → Int32) (F_h0_name : Nat → Int64)  : Int32 × Int32 × Int32 × Int32 × Int32 × Int32 × Int32 × Int32 × Int64 × Int32 × Int32 :=
  lt11 (y_X12_readSaid_2 h0_size h0_limit h0_to h0_from h0_kind h0_number h0_sign h0_fault h0_place h0_word h0_told h0_onesMany F_h0_tape F_h0_now F_h0_name) fun (r_340 : Int32) (u_345 : Int32) (u_346 : Int32) (u_347 : Int32) (u_348 : Int32) (u_349 : Int32) (u_350 : Int32) (u_351 : Int32) (u_352 : Int64) (u_353 : Int32) (u_355 : Int32) =>
  if (r_340 : Int32) = 0 then (
   (0, u_345, u_346, u_347, u_348, u_349, u_350, u_351, u_352, u_353, u_355)
  ) else (
   y_X12_readAnd_2_14 h0_size h0_limit F_h0_tape F_h0_now F_h0_name 60 u_345 u_346 u_347 u_348 u_349 u_350 u_351 u_352 u_353 u_355
  )
theorem y_X12_readAnd_2_s (h0_size : Int32) (h0_limit : Int32) (h0_to : Int32) (h0_from : Int32) (h0_kind : Int32) (h0_number : Int32) (h0_sign : Int32) (h0_fault : Int32) (h0_place : Int32) (h0_word : Int64) (h0_told : Int32) (h0_onesMany : Int32) (F_h0_tape : Nat → Int32) (F_h0_now : Nat → Int32) (F_h0_name : Nat → Int64)  : y_X12_readAnd_2 h0_size h0_limit h0_to h0_from h0_kind h0_number h0_sign h0_fault h0_place h0_word h0_told h0_onesMany F_h0_tape F_h0_now F_h0_name = (
  lt11 (y_X12_readSaid_2 h0_size h0_limit h0_to h0_from h0_kind h0_number h0_sign h0_fault h0_place h0_word h0_told h0_onesMany F_h0_tape F_h0_now F_h0_name) fun (r_340 : Int32) (u_345 : Int32) (u_346 : Int32) (u_347 : Int32) (u_348 : Int32) (u_349 : Int32) (u_350 : Int32) (u_351 : Int32) (u_352 : Int64) (u_353 : Int32) (u_355 : Int32) =>
  if (r_340 : Int32) = 0 then (
   (0, u_345, u_346, u_347, u_348, u_349, u_350, u_351, u_352, u_353, u_355)
  ) else (
   y_X12_readAnd_2_14 h0_size h0_limit F_h0_tape F_h0_now F_h0_name 60 u_345 u_346 u_347 u_348 u_349 u_350 u_351 u_352 u_353 u_355
  )) := rfl
def y_X12_readOr_2_14 (h0_size : Int32) (h0_limit : Int32) (F_h0_tape : Nat → Int32) (F_h0_now : Nat → Int32) (F_h0_name : Nat → Int64) : Nat → Int32 → Int32 → Int32 → Int32 → Int32 → Int32 → Int32 → Int64 → Int32 → Int32 → (Int32 × Int32 × Int32 × Int32 × Int32 × Int32 × Int32 × Int32 × Int64 × Int32 × Int32)
 | 0, _, _, _, _, _, _, _, _, _, _ => (0, 0, 0, 0, 0, 0, 0, 0, 0, 0, 0)
 | n14 + 1, y14_1, y14_2, y14_3, y14_4, y14_5, y14_6, y14_7, y14_8, y14_9, y14_11 =>
  lt1 (y_X12_isWord_15 y14_3 y14_8) fun (r_243 : Int32) =>
  if (r_243 : Int32) = 0 then (
   (1, y14_1, y14_2, y14_3, y14_4, y14_5, y14_6, y14_7, y14_8, y14_9, y14_11)
  ) else (
   lt6 (y_X12_go h0_size h0_limit y14_1 y14_4 y14_5 y14_8 F_h0_tape) fun (u_252 : Int32) (u_253 : Int32) (u_254 : Int32) (u_255 : Int32) (u_256 : Int32) (u_257 : Int64) =>
   lt11 (y_X12_readAnd_2 h0_size h0_limit u_252 u_253 u_254 u_255 u_256 y14_6 y14_7 u_257 y14_9 y14_11 F_h0_tape F_h0_now F_h0_name) fun (r_264 : Int32) (u_269 : Int32) (u_270 : Int32) (u_271 : Int32) (u_272 : Int32) (u_273 : Int32) (u_274 : Int32) (u_275 : Int32) (u_276 : Int64) (u_277 : Int32) (u_279 : Int32) =>
   if (r_264 : Int32) = 0 then (
    (0, u_269, u_270, u_271, u_272, u_273, u_274, u_275, u_276, u_277, u_279)
   ) else (
    y_X12_readOr_2_14 h0_size h0_limit F_h0_tape F_h0_now F_h0_name n14 u_269 u_270 u_271 u_272 u_273 u_274 u_275 u_276 u_277 u_279
   )
  )
theorem y_X12_readOr_2_14_s (h0_size : Int32) (h0_limit : Int32) (F_h0_tape : Nat → Int32) (F_h0_now : Nat → Int32) (F_h0_name : Nat → Int64) (n14 : Nat) (y14_1 : Int32) (y14_2 : Int32) (y14_3 : Int32) (y14_4 : Int32) (y14_5 : Int32) (y14_6 : Int32) (y14_7 : Int32) (y14_8 : Int64) (y14_9 : Int32) (y14_11 : Int32) : y_X12_readOr_2_14 h0_size h0_limit F_h0_tape F_h0_now F_h0_name (n14 + 1) y14_1 y14_2 y14_3 y14_4 y14_5 y14_6 y14_7 y14_8 y14_9 y14_11 = (
  lt1 (y_X12_isWord_15 y14_3 y14_8) fun (r_243 : Int32) =>
  if (r_243 : Int32) = 0 then (
   (1, y14_1, y14_2, y14_3, y14_4, y14_5, y14_6, y14_7, y14_8, y14_9, y14_11)
  ) else (
   lt6 (y_X12_go h0_size h0_limit y14_1 y14_4 y14_5 y14_8 F_h0_tape) fun (u_252 : Int32) (u_253 : Int32) (u_254 : Int32) (u_255 : Int32) (u_256 : Int32) (u_257 : Int64) =>
   lt11 (y_X12_readAnd_2 h0_size h0_limit u_252 u_253 u_254 u_255 u_256 y14_6 y14_7 u_257 y14_9 y14_11 F_h0_tape F_h0_now F_h0_name) fun (r_264 : Int32) (u_269 : Int32) (u_270 : Int32) (u_271 : Int32) (u_272 : Int32) (u_273 : Int32) (u_274 : Int32) (u_275 : Int32) (u_276 : Int64) (u_277 : Int32) (u_279 : Int32) =>
   if (r_264 : Int32) = 0 then (
    (0, u_269, u_270, u_271, u_272, u_273, u_274, u_275, u_276, u_277, u_279)
   ) else (
    y_X12_readOr_2_14 h0_size h0_limit F_h0_tape F_h0_now F_h0_name n14 u_269 u_270 u_271 u_272 u_273 u_274 u_275 u_276 u_277 u_279
   )
  )) := rfl
def y_X12_readOr_2 (h0_size : Int32) (h0_limit : Int32) (h0_to : Int32) (h0_from : Int32) (h0_kind : Int32) (h0_number : Int32) (h0_sign : Int32) (h0_fault : Int32) (h0_place : Int32) (h0_word : Int64) (h0_told : Int32) (h0_onesMany : Int32) (F_h0_tape : Nat → Int32) (F_h0_now : Nat → Int32) (F_h0_name : Nat → Int64)  : Int32 × Int32 × Int32 × Int32 × Int32 × Int32 × Int32 × Int32 × Int64 × Int32 × Int32 :=
  lt11 (y_X12_readAnd_2 h0_size h0_limit h0_to h0_from h0_kind h0_number h0_sign h0_fault h0_place h0_word h0_told h0_onesMany F_h0_tape F_h0_now F_h0_name) fun (r_340 : Int32) (u_345 : Int32) (u_346 : Int32) (u_347 : Int32) (u_348 : Int32) (u_349 : Int32) (u_350 : Int32) (u_351 : Int32) (u_352 : Int64) (u_353 : Int32) (u_355 : Int32) =>
  if (r_340 : Int32) = 0 then (
   (0, u_345, u_346, u_347, u_348, u_349, u_350, u_351, u_352, u_353, u_355)
  ) else (
   y_X12_readOr_2_14 h0_size h0_limit F_h0_tape F_h0_now F_h0_name 60 u_345 u_346 u_347 u_348 u_349 u_350 u_351 u_352 u_353 u_355
  )
theorem y_X12_readOr_2_s (h0_size : Int32) (h0_limit : Int32) (h0_to : Int32) (h0_from : Int32) (h0_kind : Int32) (h0_number : Int32) (h0_sign : Int32) (h0_fault : Int32) (h0_place : Int32) (h0_word : Int64) (h0_told : Int32) (h0_onesMany : Int32) (F_h0_tape : Nat → Int32) (F_h0_now : Nat → Int32) (F_h0_name : Nat → Int64)  : y_X12_readOr_2 h0_size h0_limit h0_to h0_from h0_kind h0_number h0_sign h0_fault h0_place h0_word h0_told h0_onesMany F_h0_tape F_h0_now F_h0_name = (
  lt11 (y_X12_readAnd_2 h0_size h0_limit h0_to h0_from h0_kind h0_number h0_sign h0_fault h0_place h0_word h0_told h0_onesMany F_h0_tape F_h0_now F_h0_name) fun (r_340 : Int32) (u_345 : Int32) (u_346 : Int32) (u_347 : Int32) (u_348 : Int32) (u_349 : Int32) (u_350 : Int32) (u_351 : Int32) (u_352 : Int64) (u_353 : Int32) (u_355 : Int32) =>
  if (r_340 : Int32) = 0 then (
   (0, u_345, u_346, u_347, u_348, u_349, u_350, u_351, u_352, u_353, u_355)
  ) else (
   y_X12_readOr_2_14 h0_size h0_limit F_h0_tape F_h0_now F_h0_name 60 u_345 u_346 u_347 u_348 u_349 u_350 u_351 u_352 u_353 u_355
  )) := rfl
def y_X12_readBracket_2 (h0_size : Int32) (h0_limit : Int32) (h0_to : Int32) (h0_from : Int32) (h0_kind : Int32) (h0_number : Int32) (h0_sign : Int32) (h0_fault : Int32) (h0_place : Int32) (h0_word : Int64) (h0_told : Int32) (h0_onesMany : Int32) (F_h0_tape : Nat → Int32) (F_h0_now : Nat → Int32) (F_h0_name : Nat → Int64)  : Int32 × Int32 × Int32 × Int32 × Int32 × Int32 × Int32 × Int32 × Int64 × Int32 × Int32 :=
  lt11 (y_X12_readOr_2 h0_size h0_limit h0_to h0_from h0_kind h0_number h0_sign h0_fault h0_place h0_word h0_told h0_onesMany F_h0_tape F_h0_now F_h0_name) fun (r_80 : Int32) (u_85 : Int32) (u_86 : Int32) (u_87 : Int32) (u_88 : Int32) (u_89 : Int32) (u_90 : Int32) (u_91 : Int32) (u_92 : Int64) (u_93 : Int32) (u_95 : Int32) =>
  if (r_80 : Int32) = 0 then (
   (0, u_85, u_86, u_87, u_88, u_89, u_90, u_91, u_92, u_93, u_95)
  ) else (
   lt1 (y_X12_isSign 41 u_87 u_89) fun (r_130 : Int32) =>
   if (r_130 : Int32) = 0 then (
    lt2 (y_X12_bad 1 u_87) fun (r_139 : Int32) (u_141 : Int32) =>
    (0, u_85, u_86, u_87, u_88, u_89, u_141, u_86, u_92, u_93, u_95)
   ) else (
    lt6 (y_X12_go h0_size h0_limit u_85 u_88 u_89 u_92 F_h0_tape) fun (u_148 : Int32) (u_149 : Int32) (u_150 : Int32) (u_151 : Int32) (u_152 : Int32) (u_153 : Int64) =>
    (1, u_148, u_149, u_150, u_151, u_152, u_90, u_91, u_153, u_93, u_95)
   )
  )
theorem y_X12_readBracket_2_s (h0_size : Int32) (h0_limit : Int32) (h0_to : Int32) (h0_from : Int32) (h0_kind : Int32) (h0_number : Int32) (h0_sign : Int32) (h0_fault : Int32) (h0_place : Int32) (h0_word : Int64) (h0_told : Int32) (h0_onesMany : Int32) (F_h0_tape : Nat → Int32) (F_h0_now : Nat → Int32) (F_h0_name : Nat → Int64)  : y_X12_readBracket_2 h0_size h0_limit h0_to h0_from h0_kind h0_number h0_sign h0_fault h0_place h0_word h0_told h0_onesMany F_h0_tape F_h0_now F_h0_name = (
  lt11 (y_X12_readOr_2 h0_size h0_limit h0_to h0_from h0_kind h0_number h0_sign h0_fault h0_place h0_word h0_told h0_onesMany F_h0_tape F_h0_now F_h0_name) fun (r_80 : Int32) (u_85 : Int32) (u_86 : Int32) (u_87 : Int32) (u_88 : Int32) (u_89 : Int32) (u_90 : Int32) (u_91 : Int32) (u_92 : Int64) (u_93 : Int32) (u_95 : Int32) =>
  if (r_80 : Int32) = 0 then (
   (0, u_85, u_86, u_87, u_88, u_89, u_90, u_91, u_92, u_93, u_95)
  ) else (
   lt1 (y_X12_isSign 41 u_87 u_89) fun (r_130 : Int32) =>
   if (r_130 : Int32) = 0 then (
    lt2 (y_X12_bad 1 u_87) fun (r_139 : Int32) (u_141 : Int32) =>
    (0, u_85, u_86, u_87, u_88, u_89, u_141, u_86, u_92, u_93, u_95)
   ) else (
    lt6 (y_X12_go h0_size h0_limit u_85 u_88 u_89 u_92 F_h0_tape) fun (u_148 : Int32) (u_149 : Int32) (u_150 : Int32) (u_151 : Int32) (u_152 : Int32) (u_153 : Int64) =>
    (1, u_148, u_149, u_150, u_151, u_152, u_90, u_91, u_153, u_93, u_95)
   )
  )) := rfl
def y_X12_readNot_2 (h0_size : Int32) (h0_limit : Int32) (h0_to : Int32) (h0_from : Int32) (h0_kind : Int32) (h0_number : Int32) (h0_sign : Int32) (h0_fault : Int32) (h0_place : Int32) (h0_word : Int64) (h0_told : Int32) (h0_onesMany : Int32) (F_h0_tape : Nat → Int32) (F_h0_now : Nat → Int32) (F_h0_name : Nat → Int64)  : Int32 × Int32 × Int32 × Int32 × Int32 × Int32 × Int32 × Int32 × Int64 × Int32 × Int32 :=
  lt11 (y_X12_readSaid_2 h0_size h0_limit h0_to h0_from h0_kind h0_number h0_sign h0_fault h0_place h0_word h0_told h0_onesMany F_h0_tape F_h0_now F_h0_name) fun (r_68 : Int32) (u_73 : Int32) (u_74 : Int32) (u_75 : Int32) (u_76 : Int32) (u_77 : Int32) (u_78 : Int32) (u_79 : Int32) (u_80 : Int64) (u_81 : Int32) (u_83 : Int32) =>
  if (r_68 : Int32) = 0 then (
   (0, u_73, u_74, u_75, u_76, u_77, u_78, u_79, u_80, u_81, u_83)
  ) else (
   (1, u_73, u_74, u_75, u_76, u_77, u_78, u_79, u_80, u_81, u_83)
  )
theorem y_X12_readNot_2_s (h0_size : Int32) (h0_limit : Int32) (h0_to : Int32) (h0_from : Int32) (h0_kind : Int32) (h0_number : Int32) (h0_sign : Int32) (h0_fault : Int32) (h0_place : Int32) (h0_word : Int64) (h0_told : Int32) (h0_onesMany : Int32) (F_h0_tape : Nat → Int32) (F_h0_now : Nat → Int32) (F_h0_name : Nat → Int64)  : y_X12_readNot_2 h0_size h0_limit h0_to h0_from h0_kind h0_number h0_sign h0_fault h0_place h0_word h0_told h0_onesMany F_h0_tape F_h0_now F_h0_name = (
  lt11 (y_X12_readSaid_2 h0_size h0_limit h0_to h0_from h0_kind h0_number h0_sign h0_fault h0_place h0_word h0_told h0_onesMany F_h0_tape F_h0_now F_h0_name) fun (r_68 : Int32) (u_73 : Int32) (u_74 : Int32) (u_75 : Int32) (u_76 : Int32) (u_77 : Int32) (u_78 : Int32) (u_79 : Int32) (u_80 : Int64) (u_81 : Int32) (u_83 : Int32) =>
  if (r_68 : Int32) = 0 then (
   (0, u_73, u_74, u_75, u_76, u_77, u_78, u_79, u_80, u_81, u_83)
  ) else (
   (1, u_73, u_74, u_75, u_76, u_77, u_78, u_79, u_80, u_81, u_83)
  )) := rfl
def y_X12_readSaid_1_10 (h0_size : Int32) (h0_limit : Int32) (h0_to : Int32) (h0_from : Int32) (h0_kind : Int32) (h0_number : Int32) (h0_sign : Int32) (h0_fault : Int32) (h0_place : Int32) (h0_word : Int64) (h0_told : Int32) (h0_onesMany : Int32) (F_h0_tape : Nat → Int32) (F_h0_now : Nat → Int32) (F_h0_name : Nat → Int64) : Nat → Int32 → Int32 → (Int32 × Int32 × Int32 × Int32 × Int32 × Int32 × Int32 × Int32 × Int64 × Int32 × Int32)
 | 0, _, _ => (0, 0, 0, 0, 0, 0, 0, 0, 0, 0, 0)
 | n10 + 1, y10_0, y10_1 =>
  if (25 : Int32) < y10_1 then (
   if (y10_0 : Int32) = 0 then (
    lt2 (y_X12_bad 1 h0_kind) fun (r_3170 : Int32) (u_3172 : Int32) =>
    (0, h0_to, h0_from, h0_kind, h0_number, h0_sign, u_3172, h0_from, h0_word, h0_told, h0_onesMany)
   ) else (
    if (h0_onesMany : Int32) = 20 then (
     lt2 (y_X12_bad 4 h0_kind) fun (r_3090 : Int32) (u_3092 : Int32) =>
     (0, h0_to, h0_from, h0_kind, h0_number, h0_sign, u_3092, h0_from, h0_word, h0_told, h0_onesMany)
    ) else (
     lt1 ((h0_onesMany : Int32) + 1) fun (x_3096 : Int32) =>
     lt6 (y_X12_go h0_size h0_limit h0_to h0_number h0_sign h0_word F_h0_tape) fun (u_3101 : Int32) (u_3102 : Int32) (u_3103 : Int32) (u_3104 : Int32) (u_3105 : Int32) (u_3106 : Int64) =>
     lt11 (y_X12_readBracket_2 h0_size h0_limit u_3101 u_3102 u_3103 u_3104 u_3105 h0_fault h0_place u_3106 h0_told x_3096 F_h0_tape F_h0_now F_h0_name) fun (r_3113 : Int32) (u_3118 : Int32) (u_3119 : Int32) (u_3120 : Int32) (u_3121 : Int32) (u_3122 : Int32) (u_3123 : Int32) (u_3124 : Int32) (u_3125 : Int64) (u_3126 : Int32) (u_3128 : Int32) =>
     if (r_3113 : Int32) = 0 then (
      (0, u_3118, u_3119, u_3120, u_3121, u_3122, u_3123, u_3124, u_3125, u_3126, u_3128)
     ) else (
      (1, u_3118, u_3119, u_3120, u_3121, u_3122, u_3123, u_3124, u_3125, u_3126, u_3128)
     )
    )
   )
  ) else (
   lt1 (y_X12_isWord y10_1 h0_kind h0_word) fun (r_3177 : Int32) =>
   if (r_3177 : Int32) = 0 then (
    lt1 (y10_1 + 1) fun (x_3184 : Int32) =>
    y_X12_readSaid_1_10 h0_size h0_limit h0_to h0_from h0_kind h0_number h0_sign h0_fault h0_place h0_word h0_told h0_onesMany F_h0_tape F_h0_now F_h0_name n10 y10_0 x_3184
   ) else (
    if (y10_0 : Int32) = 0 then (
     if (h0_onesMany : Int32) = 20 then (
      lt2 (y_X12_bad 4 h0_kind) fun (r_3277 : Int32) (u_3279 : Int32) =>
      (0, h0_to, h0_from, h0_kind, h0_number, h0_sign, u_3279, h0_from, h0_word, h0_told, h0_onesMany)
     ) else (
      lt1 ((h0_onesMany : Int32) + 1) fun (x_3283 : Int32) =>
      lt6 (y_X12_go h0_size h0_limit h0_to h0_number h0_sign h0_word F_h0_tape) fun (u_3288 : Int32) (u_3289 : Int32) (u_3290 : Int32) (u_3291 : Int32) (u_3292 : Int32) (u_3293 : Int64) =>
      if (y10_1 : Int32) = 17 then (
       lt11 (y_X12_readNot_2 h0_size h0_limit u_3288 u_3289 u_3290 u_3291 u_3292 h0_fault h0_place u_3293 h0_told x_3283 F_h0_tape F_h0_now F_h0_name) fun (r_3432 : Int32) (u_3437 : Int32) (u_3438 : Int32) (u_3439 : Int32) (u_3440 : Int32) (u_3441 : Int32) (u_3442 : Int32) (u_3443 : Int32) (u_3444 : Int64) (u_3445 : Int32) (u_3447 : Int32) =>
       if (r_3432 : Int32) = 0 then (
        (0, u_3437, u_3438, u_3439, u_3440, u_3441, u_3442, u_3443, u_3444, u_3445, u_3447)
       ) else (
        (1, u_3437, u_3438, u_3439, u_3440, u_3441, u_3442, u_3443, u_3444, u_3445, u_3447)
       )
      ) else (
       if (21 : Int32) ≤ y10_1 then (
        if (22 : Int32) ≤ y10_1 then (
         lt10 (y_X12_readCompare y10_1 h0_size h0_limit u_3288 u_3289 u_3290 u_3291 u_3292 h0_fault h0_place u_3293 h0_told F_h0_tape) fun (r_3308 : Int32) (u_3310 : Int32) (u_3311 : Int32) (u_3312 : Int32) (u_3313 : Int32) (u_3314 : Int32) (u_3315 : Int32) (u_3316 : Int32) (u_3317 : Int64) (u_3318 : Int32) =>
         if (r_3308 : Int32) = 0 then (
          (0, u_3310, u_3311, u_3312, u_3313, u_3314, u_3315, u_3316, u_3317, u_3318, x_3283)
         ) else (
          (1, u_3310, u_3311, u_3312, u_3313, u_3314, u_3315, u_3316, u_3317, u_3318, x_3283)
         )
        ) else (
         lt10 (y_X12_readOf y10_1 h0_size h0_limit u_3288 u_3289 u_3290 u_3291 u_3292 h0_fault h0_place u_3293 h0_told F_h0_now F_h0_name F_h0_tape) fun (r_3361 : Int32) (u_3363 : Int32) (u_3364 : Int32) (u_3365 : Int32) (u_3366 : Int32) (u_3367 : Int32) (u_3368 : Int32) (u_3369 : Int32) (u_3370 : Int64) (u_3371 : Int32) =>
         if (r_3361 : Int32) = 0 then (
          (0, u_3363, u_3364, u_3365, u_3366, u_3367, u_3368, u_3369, u_3370, u_3371, x_3283)
         ) else (
          (1, u_3363, u_3364, u_3365, u_3366, u_3367, u_3368, u_3369, u_3370, u_3371, x_3283)
         )
        )
       ) else (
        lt1 ((50 : Int32) + y10_1) fun (x_3412 : Int32) =>
        (1, u_3288, u_3289, u_3290, u_3291, u_3292, h0_fault, h0_place, u_3293, h0_told, x_3283)
       )
      )
     )
    ) else (
     if (h0_onesMany : Int32) = 20 then (
      lt2 (y_X12_bad 4 h0_kind) fun (r_3193 : Int32) (u_3195 : Int32) =>
      (0, h0_to, h0_from, h0_kind, h0_number, h0_sign, u_3195, h0_from, h0_word, h0_told, h0_onesMany)
     ) else (
      lt1 ((h0_onesMany : Int32) + 1) fun (x_3199 : Int32) =>
      lt6 (y_X12_go h0_size h0_limit h0_to h0_number h0_sign h0_word F_h0_tape) fun (u_3204 : Int32) (u_3205 : Int32) (u_3206 : Int32) (u_3207 : Int32) (u_3208 : Int32) (u_3209 : Int64) =>
      lt11 (y_X12_readBracket_2 h0_size h0_limit u_3204 u_3205 u_3206 u_3207 u_3208 h0_fault h0_place u_3209 h0_told x_3199 F_h0_tape F_h0_now F_h0_name) fun (r_3216 : Int32) (u_3221 : Int32) (u_3222 : Int32) (u_3223 : Int32) (u_3224 : Int32) (u_3225 : Int32) (u_3226 : Int32) (u_3227 : Int32) (u_3228 : Int64) (u_3229 : Int32) (u_3231 : Int32) =>
      if (r_3216 : Int32) = 0 then (
       (0, u_3221, u_3222, u_3223, u_3224, u_3225, u_3226, u_3227, u_3228, u_3229, u_3231)
      ) else (
       (1, u_3221, u_3222, u_3223, u_3224, u_3225, u_3226, u_3227, u_3228, u_3229, u_3231)
      )
     )
    )
   )
  )
theorem y_X12_readSaid_1_10_s (h0_size : Int32) (h0_limit : Int32) (h0_to : Int32) (h0_from : Int32) (h0_kind : Int32) (h0_number : Int32) (h0_sign : Int32) (h0_fault : Int32) (h0_place : Int32) (h0_word : Int64) (h0_told : Int32) (h0_onesMany : Int32) (F_h0_tape : Nat → Int32) (F_h0_now : Nat → Int32) (F_h0_name : Nat → Int64) (n10 : Nat) (y10_0 : Int32) (y10_1 : Int32) : y_X12_readSaid_1_10 h0_size h0_limit h0_to h0_from h0_kind h0_number h0_sign h0_fault h0_place h0_word h0_told h0_onesMany F_h0_tape F_h0_now F_h0_name (n10 + 1) y10_0 y10_1 = (
  if (25 : Int32) < y10_1 then (
   if (y10_0 : Int32) = 0 then (
    lt2 (y_X12_bad 1 h0_kind) fun (r_3170 : Int32) (u_3172 : Int32) =>
    (0, h0_to, h0_from, h0_kind, h0_number, h0_sign, u_3172, h0_from, h0_word, h0_told, h0_onesMany)
   ) else (
    if (h0_onesMany : Int32) = 20 then (
     lt2 (y_X12_bad 4 h0_kind) fun (r_3090 : Int32) (u_3092 : Int32) =>
     (0, h0_to, h0_from, h0_kind, h0_number, h0_sign, u_3092, h0_from, h0_word, h0_told, h0_onesMany)
    ) else (
     lt1 ((h0_onesMany : Int32) + 1) fun (x_3096 : Int32) =>
     lt6 (y_X12_go h0_size h0_limit h0_to h0_number h0_sign h0_word F_h0_tape) fun (u_3101 : Int32) (u_3102 : Int32) (u_3103 : Int32) (u_3104 : Int32) (u_3105 : Int32) (u_3106 : Int64) =>
     lt11 (y_X12_readBracket_2 h0_size h0_limit u_3101 u_3102 u_3103 u_3104 u_3105 h0_fault h0_place u_3106 h0_told x_3096 F_h0_tape F_h0_now F_h0_name) fun (r_3113 : Int32) (u_3118 : Int32) (u_3119 : Int32) (u_3120 : Int32) (u_3121 : Int32) (u_3122 : Int32) (u_3123 : Int32) (u_3124 : Int32) (u_3125 : Int64) (u_3126 : Int32) (u_3128 : Int32) =>
     if (r_3113 : Int32) = 0 then (
      (0, u_3118, u_3119, u_3120, u_3121, u_3122, u_3123, u_3124, u_3125, u_3126, u_3128)
     ) else (
      (1, u_3118, u_3119, u_3120, u_3121, u_3122, u_3123, u_3124, u_3125, u_3126, u_3128)
     )
    )
   )
  ) else (
   lt1 (y_X12_isWord y10_1 h0_kind h0_word) fun (r_3177 : Int32) =>
   if (r_3177 : Int32) = 0 then (
    lt1 (y10_1 + 1) fun (x_3184 : Int32) =>
    y_X12_readSaid_1_10 h0_size h0_limit h0_to h0_from h0_kind h0_number h0_sign h0_fault h0_place h0_word h0_told h0_onesMany F_h0_tape F_h0_now F_h0_name n10 y10_0 x_3184
   ) else (
    if (y10_0 : Int32) = 0 then (
     if (h0_onesMany : Int32) = 20 then (
      lt2 (y_X12_bad 4 h0_kind) fun (r_3277 : Int32) (u_3279 : Int32) =>
      (0, h0_to, h0_from, h0_kind, h0_number, h0_sign, u_3279, h0_from, h0_word, h0_told, h0_onesMany)
     ) else (
      lt1 ((h0_onesMany : Int32) + 1) fun (x_3283 : Int32) =>
      lt6 (y_X12_go h0_size h0_limit h0_to h0_number h0_sign h0_word F_h0_tape) fun (u_3288 : Int32) (u_3289 : Int32) (u_3290 : Int32) (u_3291 : Int32) (u_3292 : Int32) (u_3293 : Int64) =>
      if (y10_1 : Int32) = 17 then (
       lt11 (y_X12_readNot_2 h0_size h0_limit u_3288 u_3289 u_3290 u_3291 u_3292 h0_fault h0_place u_3293 h0_told x_3283 F_h0_tape F_h0_now F_h0_name) fun (r_3432 : Int32) (u_3437 : Int32) (u_3438 : Int32) (u_3439 : Int32) (u_3440 : Int32) (u_3441 : Int32) (u_3442 : Int32) (u_3443 : Int32) (u_3444 : Int64) (u_3445 : Int32) (u_3447 : Int32) =>
       if (r_3432 : Int32) = 0 then (
        (0, u_3437, u_3438, u_3439, u_3440, u_3441, u_3442, u_3443, u_3444, u_3445, u_3447)
       ) else (
        (1, u_3437, u_3438, u_3439, u_3440, u_3441, u_3442, u_3443, u_3444, u_3445, u_3447)
       )
      ) else (
       if (21 : Int32) ≤ y10_1 then (
        if (22 : Int32) ≤ y10_1 then (
         lt10 (y_X12_readCompare y10_1 h0_size h0_limit u_3288 u_3289 u_3290 u_3291 u_3292 h0_fault h0_place u_3293 h0_told F_h0_tape) fun (r_3308 : Int32) (u_3310 : Int32) (u_3311 : Int32) (u_3312 : Int32) (u_3313 : Int32) (u_3314 : Int32) (u_3315 : Int32) (u_3316 : Int32) (u_3317 : Int64) (u_3318 : Int32) =>
         if (r_3308 : Int32) = 0 then (
          (0, u_3310, u_3311, u_3312, u_3313, u_3314, u_3315, u_3316, u_3317, u_3318, x_3283)
         ) else (
          (1, u_3310, u_3311, u_3312, u_3313, u_3314, u_3315, u_3316, u_3317, u_3318, x_3283)
         )
        ) else (
         lt10 (y_X12_readOf y10_1 h0_size h0_limit u_3288 u_3289 u_3290 u_3291 u_3292 h0_fault h0_place u_3293 h0_told F_h0_now F_h0_name F_h0_tape) fun (r_3361 : Int32) (u_3363 : Int32) (u_3364 : Int32) (u_3365 : Int32) (u_3366 : Int32) (u_3367 : Int32) (u_3368 : Int32) (u_3369 : Int32) (u_3370 : Int64) (u_3371 : Int32) =>
         if (r_3361 : Int32) = 0 then (
          (0, u_3363, u_3364, u_3365, u_3366, u_3367, u_3368, u_3369, u_3370, u_3371, x_3283)
         ) else (
          (1, u_3363, u_3364, u_3365, u_3366, u_3367, u_3368, u_3369, u_3370, u_3371, x_3283)
         )
        )
       ) else (
        lt1 ((50 : Int32) + y10_1) fun (x_3412 : Int32) =>
        (1, u_3288, u_3289, u_3290, u_3291, u_3292, h0_fault, h0_place, u_3293, h0_told, x_3283)
       )
      )
     )
    ) else (
     if (h0_onesMany : Int32) = 20 then (
      lt2 (y_X12_bad 4 h0_kind) fun (r_3193 : Int32) (u_3195 : Int32) =>
      (0, h0_to, h0_from, h0_kind, h0_number, h0_sign, u_3195, h0_from, h0_word, h0_told, h0_onesMany)
     ) else (
      lt1 ((h0_onesMany : Int32) + 1) fun (x_3199 : Int32) =>
      lt6 (y_X12_go h0_size h0_limit h0_to h0_number h0_sign h0_word F_h0_tape) fun (u_3204 : Int32) (u_3205 : Int32) (u_3206 : Int32) (u_3207 : Int32) (u_3208 : Int32) (u_3209 : Int64) =>
      lt11 (y_X12_readBracket_2 h0_size h0_limit u_3204 u_3205 u_3206 u_3207 u_3208 h0_fault h0_place u_3209 h0_told x_3199 F_h0_tape F_h0_now F_h0_name) fun (r_3216 : Int32) (u_3221 : Int32) (u_3222 : Int32) (u_3223 : Int32) (u_3224 : Int32) (u_3225 : Int32) (u_3226 : Int32) (u_3227 : Int32) (u_3228 : Int64) (u_3229 : Int32) (u_3231 : Int32) =>
      if (r_3216 : Int32) = 0 then (
       (0, u_3221, u_3222, u_3223, u_3224, u_3225, u_3226, u_3227, u_3228, u_3229, u_3231)
      ) else (
       (1, u_3221, u_3222, u_3223, u_3224, u_3225, u_3226, u_3227, u_3228, u_3229, u_3231)
      )
     )
    )
   )
  )) := rfl
def y_X12_readSaid_1 (h0_size : Int32) (h0_limit : Int32) (h0_to : Int32) (h0_from : Int32) (h0_kind : Int32) (h0_number : Int32) (h0_sign : Int32) (h0_fault : Int32) (h0_place : Int32) (h0_word : Int64) (h0_told : Int32) (h0_onesMany : Int32) (F_h0_tape : Nat → Int32) (F_h0_now : Nat → Int32) (F_h0_name : Nat → Int64)  : Int32 × Int32 × Int32 × Int32 × Int32 × Int32 × Int32 × Int32 × Int64 × Int32 × Int32 :=
  lt1 (y_X12_isSign 40 h0_kind h0_sign) fun (r_3488 : Int32) =>
  if (r_3488 : Int32) = 0 then (
   y_X12_readSaid_1_10 h0_size h0_limit h0_to h0_from h0_kind h0_number h0_sign h0_fault h0_place h0_word h0_told h0_onesMany F_h0_tape F_h0_now F_h0_name 10 0 17
  ) else (
   y_X12_readSaid_1_10 h0_size h0_limit h0_to h0_from h0_kind h0_number h0_sign h0_fault h0_place h0_word h0_told h0_onesMany F_h0_tape F_h0_now F_h0_name 10 1 17
  )
theorem y_X12_readSaid_1_s (h0_size : Int32) (h0_limit : Int32) (h0_to : Int32) (h0_from : Int32) (h0_kind : Int32) (h0_number : Int32) (h0_sign : Int32) (h0_fault : Int32) (h0_place : Int32) (h0_word : Int64) (h0_told : Int32) (h0_onesMany : Int32) (F_h0_tape : Nat → Int32) (F_h0_now : Nat → Int32) (F_h0_name : Nat → Int64)  : y_X12_readSaid_1 h0_size h0_limit h0_to h0_from h0_kind h0_number h0_sign h0_fault h0_place h0_word h0_told h0_onesMany F_h0_tape F_h0_now F_h0_name = (
  lt1 (y_X12_isSign 40 h0_kind h0_sign) fun (r_3488 : Int32) =>
  if (r_3488 : Int32) = 0 then (
   y_X12_readSaid_1_10 h0_size h0_limit h0_to h0_from h0_kind h0_number h0_sign h0_fault h0_place h0_word h0_told h0_onesMany F_h0_tape F_h0_now F_h0_name 10 0 17
  ) else (
   y_X12_readSaid_1_10 h0_size h0_limit h0_to h0_from h0_kind h0_number h0_sign h0_fault h0_place h0_word h0_told h0_onesMany F_h0_tape F_h0_now F_h0_name 10 1 17
  )) := rfl
def y_X12_readAnd_1_14 (h0_size : Int32) (h0_limit : Int32) (F_h0_tape : Nat → Int32) (F_h0_now : Nat → Int32) (F_h0_name : Nat → Int64) : Nat → Int32 → Int32 → Int32 → Int32 → Int32 → Int32 → Int32 → Int64 → Int32 → Int32 → (Int32 × Int32 × Int32 × Int32 × Int32 × Int32 × Int32 × Int32 × Int64 × Int32 × Int32)
 | 0, _, _, _, _, _, _, _, _, _, _ => (0, 0, 0, 0, 0, 0, 0, 0, 0, 0, 0)
 | n14 + 1, y14_1, y14_2, y14_3, y14_4, y14_5, y14_6, y14_7, y14_8, y14_9, y14_11 =>
  lt1 (y_X12_isWord_16 y14_3 y14_8) fun (r_243 : Int32) =>
  if (r_243 : Int32) = 0 then (
   (1, y14_1, y14_2, y14_3, y14_4, y14_5, y14_6, y14_7, y14_8, y14_9, y14_11)
  ) else (
   lt6 (y_X12_go h0_size h0_limit y14_1 y14_4 y14_5 y14_8 F_h0_tape) fun (u_252 : Int32) (u_253 : Int32) (u_254 : Int32) (u_255 : Int32) (u_256 : Int32) (u_257 : Int64) =>
   lt11 (y_X12_readSaid_1 h0_size h0_limit u_252 u_253 u_254 u_255 u_256 y14_6 y14_7 u_257 y14_9 y14_11 F_h0_tape F_h0_now F_h0_name) fun (r_264 : Int32) (u_269 : Int32) (u_270 : Int32) (u_271 : Int32) (u_272 : Int32) (u_273 : Int32) (u_274 : Int32) (u_275 : Int32) (u_276 : Int64) (u_277 : Int32) (u_279 : Int32) =>
   if (r_264 : Int32) = 0 then (
    (0, u_269, u_270, u_271, u_272, u_273, u_274, u_275, u_276, u_277, u_279)
   ) else (
    y_X12_readAnd_1_14 h0_size h0_limit F_h0_tape F_h0_now F_h0_name n14 u_269 u_270 u_271 u_272 u_273 u_274 u_275 u_276 u_277 u_279
   )
  )
theorem y_X12_readAnd_1_14_s (h0_size : Int32) (h0_limit : Int32) (F_h0_tape : Nat → Int32) (F_h0_now : Nat → Int32) (F_h0_name : Nat → Int64) (n14 : Nat) (y14_1 : Int32) (y14_2 : Int32) (y14_3 : Int32) (y14_4 : Int32) (y14_5 : Int32) (y14_6 : Int32) (y14_7 : Int32) (y14_8 : Int64) (y14_9 : Int32) (y14_11 : Int32) : y_X12_readAnd_1_14 h0_size h0_limit F_h0_tape F_h0_now F_h0_name (n14 + 1) y14_1 y14_2 y14_3 y14_4 y14_5 y14_6 y14_7 y14_8 y14_9 y14_11 = (
  lt1 (y_X12_isWord_16 y14_3 y14_8) fun (r_243 : Int32) =>
  if (r_243 : Int32) = 0 then (
   (1, y14_1, y14_2, y14_3, y14_4, y14_5, y14_6, y14_7, y14_8, y14_9, y14_11)
  ) else (
   lt6 (y_X12_go h0_size h0_limit y14_1 y14_4 y14_5 y14_8 F_h0_tape) fun (u_252 : Int32) (u_253 : Int32) (u_254 : Int32) (u_255 : Int32) (u_256 : Int32) (u_257 : Int64) =>
   lt11 (y_X12_readSaid_1 h0_size h0_limit u_252 u_253 u_254 u_255 u_256 y14_6 y14_7 u_257 y14_9 y14_11 F_h0_tape F_h0_now F_h0_name) fun (r_264 : Int32) (u_269 : Int32) (u_270 : Int32) (u_271 : Int32) (u_272 : Int32) (u_273 : Int32) (u_274 : Int32) (u_275 : Int32) (u_276 : Int64) (u_277 : Int32) (u_279 : Int32) =>
   if (r_264 : Int32) = 0 then (
    (0, u_269, u_270, u_271, u_272, u_273, u_274, u_275, u_276, u_277, u_279)
   ) else (
    y_X12_readAnd_1_14 h0_size h0_limit F_h0_tape F_h0_now F_h0_name n14 u_269 u_270 u_271 u_272 u_273 u_274 u_275 u_276 u_277 u_279
   )
  )) := rfl
def y_X12_readAnd_1 (h0_size : Int32) (h0_limit : Int32) (h0_to : Int32) (h0_from : Int32) (h0_kind : Int32) (h0_number : Int32) (h0_sign : Int32) (h0_fault : Int32) (h0_place : Int32) (h0_word : Int64) (h0_told : Int32) (h0_onesMany : Int32) (F_h0_tape : Nat → Int32) (F_h0_now : Nat → Int32) (F_h0_name : Nat → Int64)  : Int32 × Int32 × Int32 × Int32 × Int32 × Int32 × Int32 × Int32 × Int64 × Int32 × Int32 :=
  lt11 (y_X12_readSaid_1 h0_size h0_limit h0_to h0_from h0_kind h0_number h0_sign h0_fault h0_place h0_word h0_told h0_onesMany F_h0_tape F_h0_now F_h0_name) fun (r_340 : Int32) (u_345 : Int32) (u_346 : Int32) (u_347 : Int32) (u_348 : Int32) (u_349 : Int32) (u_350 : Int32) (u_351 : Int32) (u_352 : Int64) (u_353 : Int32) (u_355 : Int32) =>
  if (r_340 : Int32) = 0 then (
   (0, u_345, u_346, u_347, u_348, u_349, u_350, u_351, u_352, u_353, u_355)
  ) else (
   y_X12_readAnd_1_14 h0_size h0_limit F_h0_tape F_h0_now F_h0_name 60 u_345 u_346 u_347 u_348 u_349 u_350 u_351 u_352 u_353 u_355
  )
theorem y_X12_readAnd_1_s (h0_size : Int32) (h0_limit : Int32) (h0_to : Int32) (h0_from : Int32) (h0_kind : Int32) (h0_number : Int32) (h0_sign : Int32) (h0_fault : Int32) (h0_place : Int32) (h0_word : Int64) (h0_told : Int32) (h0_onesMany : Int32) (F_h0_tape : Nat → Int32) (F_h0_now : Nat → Int32) (F_h0_name : Nat → Int64)  : y_X12_readAnd_1 h0_size h0_limit h0_to h0_from h0_kind h0_number h0_sign h0_fault h0_place h0_word h0_told h0_onesMany F_h0_tape F_h0_now F_h0_name = (
  lt11 (y_X12_readSaid_1 h0_size h0_limit h0_to h0_from h0_kind h0_number h0_sign h0_fault h0_place h0_word h0_told h0_onesMany F_h0_tape F_h0_now F_h0_name) fun (r_340 : Int32) (u_345 : Int32) (u_346 : Int32) (u_347 : Int32) (u_348 : Int32) (u_349 : Int32) (u_350 : Int32) (u_351 : Int32) (u_352 : Int64) (u_353 : Int32) (u_355 : Int32) =>
  if (r_340 : Int32) = 0 then (
   (0, u_345, u_346, u_347, u_348, u_349, u_350, u_351, u_352, u_353, u_355)
  ) else (
   y_X12_readAnd_1_14 h0_size h0_limit F_h0_tape F_h0_now F_h0_name 60 u_345 u_346 u_347 u_348 u_349 u_350 u_351 u_352 u_353 u_355
  )) := rfl
def y_X12_readOr_1_14 (h0_size : Int32) (h0_limit : Int32) (F_h0_tape : Nat → Int32) (F_h0_now : Nat → Int32) (F_h0_name : Nat → Int64) : Nat → Int32 → Int32 → Int32 → Int32 → Int32 → Int32 → Int32 → Int64 → Int32 → Int32 → (Int32 × Int32 × Int32 × Int32 × Int32 × Int32 × Int32 × Int32 × Int64 × Int32 × Int32)
 | 0, _, _, _, _, _, _, _, _, _, _ => (0, 0, 0, 0, 0, 0, 0, 0, 0, 0, 0)
 | n14 + 1, y14_1, y14_2, y14_3, y14_4, y14_5, y14_6, y14_7, y14_8, y14_9, y14_11 =>
  lt1 (y_X12_isWord_15 y14_3 y14_8) fun (r_243 : Int32) =>
  if (r_243 : Int32) = 0 then (
   (1, y14_1, y14_2, y14_3, y14_4, y14_5, y14_6, y14_7, y14_8, y14_9, y14_11)
  ) else (
   lt6 (y_X12_go h0_size h0_limit y14_1 y14_4 y14_5 y14_8 F_h0_tape) fun (u_252 : Int32) (u_253 : Int32) (u_254 : Int32) (u_255 : Int32) (u_256 : Int32) (u_257 : Int64) =>
   lt11 (y_X12_readAnd_1 h0_size h0_limit u_252 u_253 u_254 u_255 u_256 y14_6 y14_7 u_257 y14_9 y14_11 F_h0_tape F_h0_now F_h0_name) fun (r_264 : Int32) (u_269 : Int32) (u_270 : Int32) (u_271 : Int32) (u_272 : Int32) (u_273 : Int32) (u_274 : Int32) (u_275 : Int32) (u_276 : Int64) (u_277 : Int32) (u_279 : Int32) =>
   if (r_264 : Int32) = 0 then (
    (0, u_269, u_270, u_271, u_272, u_273, u_274, u_275, u_276, u_277, u_279)
   ) else (
    y_X12_readOr_1_14 h0_size h0_limit F_h0_tape F_h0_now F_h0_name n14 u_269 u_270 u_271 u_272 u_273 u_274 u_275 u_276 u_277 u_279
   )
  )
theorem y_X12_readOr_1_14_s (h0_size : Int32) (h0_limit : Int32) (F_h0_tape : Nat → Int32) (F_h0_now : Nat → Int32) (F_h0_name : Nat → Int64) (n14 : Nat) (y14_1 : Int32) (y14_2 : Int32) (y14_3 : Int32) (y14_4 : Int32) (y14_5 : Int32) (y14_6 : Int32) (y14_7 : Int32) (y14_8 : Int64) (y14_9 : Int32) (y14_11 : Int32) : y_X12_readOr_1_14 h0_size h0_limit F_h0_tape F_h0_now F_h0_name (n14 + 1) y14_1 y14_2 y14_3 y14_4 y14_5 y14_6 y14_7 y14_8 y14_9 y14_11 = (
  lt1 (y_X12_isWord_15 y14_3 y14_8) fun (r_243 : Int32) =>
  if (r_243 : Int32) = 0 then (
   (1, y14_1, y14_2, y14_3, y14_4, y14_5, y14_6, y14_7, y14_8, y14_9, y14_11)
  ) else (
   lt6 (y_X12_go h0_size h0_limit y14_1 y14_4 y14_5 y14_8 F_h0_tape) fun (u_252 : Int32) (u_253 : Int32) (u_254 : Int32) (u_255 : Int32) (u_256 : Int32) (u_257 : Int64) =>
   lt11 (y_X12_readAnd_1 h0_size h0_limit u_252 u_253 u_254 u_255 u_256 y14_6 y14_7 u_257 y14_9 y14_11 F_h0_tape F_h0_now F_h0_name) fun (r_264 : Int32) (u_269 : Int32) (u_270 : Int32) (u_271 : Int32) (u_272 : Int32) (u_273 : Int32) (u_274 : Int32) (u_275 : Int32) (u_276 : Int64) (u_277 : Int32) (u_279 : Int32) =>
   if (r_264 : Int32) = 0 then (
    (0, u_269, u_270, u_271, u_272, u_273, u_274, u_275, u_276, u_277, u_279)
   ) else (
    y_X12_readOr_1_14 h0_size h0_limit F_h0_tape F_h0_now F_h0_name n14 u_269 u_270 u_271 u_272 u_273 u_274 u_275 u_276 u_277 u_279
   )
  )) := rfl
def y_X12_readOr_1 (h0_size : Int32) (h0_limit : Int32) (h0_to : Int32) (h0_from : Int32) (h0_kind : Int32) (h0_number : Int32) (h0_sign : Int32) (h0_fault : Int32) (h0_place : Int32) (h0_word : Int64) (h0_told : Int32) (h0_onesMany : Int32) (F_h0_tape : Nat → Int32) (F_h0_now : Nat → Int32) (F_h0_name : Nat → Int64)  : Int32 × Int32 × Int32 × Int32 × Int32 × Int32 × Int32 × Int32 × Int64 × Int32 × Int32 :=
  lt11 (y_X12_readAnd_1 h0_size h0_limit h0_to h0_from h0_kind h0_number h0_sign h0_fault h0_place h0_word h0_told h0_onesMany F_h0_tape F_h0_now F_h0_name) fun (r_340 : Int32) (u_345 : Int32) (u_346 : Int32) (u_347 : Int32) (u_348 : Int32) (u_349 : Int32) (u_350 : Int32) (u_351 : Int32) (u_352 : Int64) (u_353 : Int32) (u_355 : Int32) =>
  if (r_340 : Int32) = 0 then (
   (0, u_345, u_346, u_347, u_348, u_349, u_350, u_351, u_352, u_353, u_355)
  ) else (
   y_X12_readOr_1_14 h0_size h0_limit F_h0_tape F_h0_now F_h0_name 60 u_345 u_346 u_347 u_348 u_349 u_350 u_351 u_352 u_353 u_355
  )
theorem y_X12_readOr_1_s (h0_size : Int32) (h0_limit : Int32) (h0_to : Int32) (h0_from : Int32) (h0_kind : Int32) (h0_number : Int32) (h0_sign : Int32) (h0_fault : Int32) (h0_place : Int32) (h0_word : Int64) (h0_told : Int32) (h0_onesMany : Int32) (F_h0_tape : Nat → Int32) (F_h0_now : Nat → Int32) (F_h0_name : Nat → Int64)  : y_X12_readOr_1 h0_size h0_limit h0_to h0_from h0_kind h0_number h0_sign h0_fault h0_place h0_word h0_told h0_onesMany F_h0_tape F_h0_now F_h0_name = (
  lt11 (y_X12_readAnd_1 h0_size h0_limit h0_to h0_from h0_kind h0_number h0_sign h0_fault h0_place h0_word h0_told h0_onesMany F_h0_tape F_h0_now F_h0_name) fun (r_340 : Int32) (u_345 : Int32) (u_346 : Int32) (u_347 : Int32) (u_348 : Int32) (u_349 : Int32) (u_350 : Int32) (u_351 : Int32) (u_352 : Int64) (u_353 : Int32) (u_355 : Int32) =>
  if (r_340 : Int32) = 0 then (
   (0, u_345, u_346, u_347, u_348, u_349, u_350, u_351, u_352, u_353, u_355)
  ) else (
   y_X12_readOr_1_14 h0_size h0_limit F_h0_tape F_h0_now F_h0_name 60 u_345 u_346 u_347 u_348 u_349 u_350 u_351 u_352 u_353 u_355
  )) := rfl
def y_X12_readBracket_1 (h0_size : Int32) (h0_limit : Int32) (h0_to : Int32) (h0_from : Int32) (h0_kind : Int32) (h0_number : Int32) (h0_sign : Int32) (h0_fault : Int32) (h0_place : Int32) (h0_word : Int64) (h0_told : Int32) (h0_onesMany : Int32) (F_h0_tape : Nat → Int32) (F_h0_now : Nat → Int32) (F_h0_name : Nat → Int64)  : Int32 × Int32 × Int32 × Int32 × Int32 × Int32 × Int32 × Int32 × Int64 × Int32 × Int32 :=
  lt11 (y_X12_readOr_1 h0_size h0_limit h0_to h0_from h0_kind h0_number h0_sign h0_fault h0_place h0_word h0_told h0_onesMany F_h0_tape F_h0_now F_h0_name) fun (r_80 : Int32) (u_85 : Int32) (u_86 : Int32) (u_87 : Int32) (u_88 : Int32) (u_89 : Int32) (u_90 : Int32) (u_91 : Int32) (u_92 : Int64) (u_93 : Int32) (u_95 : Int32) =>
  if (r_80 : Int32) = 0 then (
   (0, u_85, u_86, u_87, u_88, u_89, u_90, u_91, u_92, u_93, u_95)
  ) else (
   lt1 (y_X12_isSign 41 u_87 u_89) fun (r_130 : Int32) =>
   if (r_130 : Int32) = 0 then (
    lt2 (y_X12_bad 1 u_87) fun (r_139 : Int32) (u_141 : Int32) =>
    (0, u_85, u_86, u_87, u_88, u_89, u_141, u_86, u_92, u_93, u_95)
   ) else (
    lt6 (y_X12_go h0_size h0_limit u_85 u_88 u_89 u_92 F_h0_tape) fun (u_148 : Int32) (u_149 : Int32) (u_150 : Int32) (u_151 : Int32) (u_152 : Int32) (u_153 : Int64) =>
    (1, u_148, u_149, u_150, u_151, u_152, u_90, u_91, u_153, u_93, u_95)
   )
  )
theorem y_X12_readBracket_1_s (h0_size : Int32) (h0_limit : Int32) (h0_to : Int32) (h0_from : Int32) (h0_kind : Int32) (h0_number : Int32) (h0_sign : Int32) (h0_fault : Int32) (h0_place : Int32) (h0_word : Int64) (h0_told : Int32) (h0_onesMany : Int32) (F_h0_tape : Nat → Int32) (F_h0_now : Nat → Int32) (F_h0_name : Nat → Int64)  : y_X12_readBracket_1 h0_size h0_limit h0_to h0_from h0_kind h0_number h0_sign h0_fault h0_place h0_word h0_told h0_onesMany F_h0_tape F_h0_now F_h0_name = (
  lt11 (y_X12_readOr_1 h0_size h0_limit h0_to h0_from h0_kind h0_number h0_sign h0_fault h0_place h0_word h0_told h0_onesMany F_h0_tape F_h0_now F_h0_name) fun (r_80 : Int32) (u_85 : Int32) (u_86 : Int32) (u_87 : Int32) (u_88 : Int32) (u_89 : Int32) (u_90 : Int32) (u_91 : Int32) (u_92 : Int64) (u_93 : Int32) (u_95 : Int32) =>
  if (r_80 : Int32) = 0 then (
   (0, u_85, u_86, u_87, u_88, u_89, u_90, u_91, u_92, u_93, u_95)
  ) else (
   lt1 (y_X12_isSign 41 u_87 u_89) fun (r_130 : Int32) =>
   if (r_130 : Int32) = 0 then (
    lt2 (y_X12_bad 1 u_87) fun (r_139 : Int32) (u_141 : Int32) =>
    (0, u_85, u_86, u_87, u_88, u_89, u_141, u_86, u_92, u_93, u_95)
   ) else (
    lt6 (y_X12_go h0_size h0_limit u_85 u_88 u_89 u_92 F_h0_tape) fun (u_148 : Int32) (u_149 : Int32) (u_150 : Int32) (u_151 : Int32) (u_152 : Int32) (u_153 : Int64) =>
    (1, u_148, u_149, u_150, u_151, u_152, u_90, u_91, u_153, u_93, u_95)
   )
  )) := rfl
def y_X12_readNot_1 (h0_size : Int32) (h0_limit : Int32) (h0_to : Int32) (h0_from : Int32) (h0_kind : Int32) (h0_number : Int32) (h0_sign : Int32) (h0_fault : Int32) (h0_place : Int32) (h0_word : Int64) (h0_told : Int32) (h0_onesMany : Int32) (F_h0_tape : Nat → Int32) (F_h0_now : Nat → Int32) (F_h0_name : Nat → Int64)  : Int32 × Int32 × Int32 × Int32 × Int32 × Int32 × Int32 × Int32 × Int64 × Int32 × Int32 :=
  lt11 (y_X12_readSaid_1 h0_size h0_limit h0_to h0_from h0_kind h0_number h0_sign h0_fault h0_place h0_word h0_told h0_onesMany F_h0_tape F_h0_now F_h0_name) fun (r_68 : Int32) (u_73 : Int32) (u_74 : Int32) (u_75 : Int32) (u_76 : Int32) (u_77 : Int32) (u_78 : Int32) (u_79 : Int32) (u_80 : Int64) (u_81 : Int32) (u_83 : Int32) =>
  if (r_68 : Int32) = 0 then (
   (0, u_73, u_74, u_75, u_76, u_77, u_78, u_79, u_80, u_81, u_83)
  ) else (
   (1, u_73, u_74, u_75, u_76, u_77, u_78, u_79, u_80, u_81, u_83)
  )
theorem y_X12_readNot_1_s (h0_size : Int32) (h0_limit : Int32) (h0_to : Int32) (h0_from : Int32) (h0_kind : Int32) (h0_number : Int32) (h0_sign : Int32) (h0_fault : Int32) (h0_place : Int32) (h0_word : Int64) (h0_told : Int32) (h0_onesMany : Int32) (F_h0_tape : Nat → Int32) (F_h0_now : Nat → Int32) (F_h0_name : Nat → Int64)  : y_X12_readNot_1 h0_size h0_limit h0_to h0_from h0_kind h0_number h0_sign h0_fault h0_place h0_word h0_told h0_onesMany F_h0_tape F_h0_now F_h0_name = (
  lt11 (y_X12_readSaid_1 h0_size h0_limit h0_to h0_from h0_kind h0_number h0_sign h0_fault h0_place h0_word h0_told h0_onesMany F_h0_tape F_h0_now F_h0_name) fun (r_68 : Int32) (u_73 : Int32) (u_74 : Int32) (u_75 : Int32) (u_76 : Int32) (u_77 : Int32) (u_78 : Int32) (u_79 : Int32) (u_80 : Int64) (u_81 : Int32) (u_83 : Int32) =>
  if (r_68 : Int32) = 0 then (
   (0, u_73, u_74, u_75, u_76, u_77, u_78, u_79, u_80, u_81, u_83)
  ) else (
   (1, u_73, u_74, u_75, u_76, u_77, u_78, u_79, u_80, u_81, u_83)
  )) := rfl
def y_X12_readSaid_0_10 (h0_size : Int32) (h0_limit : Int32) (h0_to : Int32) (h0_from : Int32) (h0_kind : Int32) (h0_number : Int32) (h0_sign : Int32) (h0_fault : Int32) (h0_place : Int32) (h0_word : Int64) (h0_told : Int32) (h0_onesMany : Int32) (F_h0_tape : Nat → Int32) (F_h0_now : Nat → Int32) (F_h0_name : Nat → Int64) : Nat → Int32 → Int32 → (Int32 × Int32 × Int32 × Int32 × Int32 × Int32 × Int32 × Int32 × Int64 × Int32 × Int32)
 | 0, _, _ => (0, 0, 0, 0, 0, 0, 0, 0, 0, 0, 0)
 | n10 + 1, y10_0, y10_1 =>
  if (25 : Int32) < y10_1 then (
   if (y10_0 : Int32) = 0 then (
    lt2 (y_X12_bad 1 h0_kind) fun (r_3170 : Int32) (u_3172 : Int32) =>
    (0, h0_to, h0_from, h0_kind, h0_number, h0_sign, u_3172, h0_from, h0_word, h0_told, h0_onesMany)
   ) else (
    if (h0_onesMany : Int32) = 20 then (
     lt2 (y_X12_bad 4 h0_kind) fun (r_3090 : Int32) (u_3092 : Int32) =>
     (0, h0_to, h0_from, h0_kind, h0_number, h0_sign, u_3092, h0_from, h0_word, h0_told, h0_onesMany)
    ) else (
     lt1 ((h0_onesMany : Int32) + 1) fun (x_3096 : Int32) =>
     lt6 (y_X12_go h0_size h0_limit h0_to h0_number h0_sign h0_word F_h0_tape) fun (u_3101 : Int32) (u_3102 : Int32) (u_3103 : Int32) (u_3104 : Int32) (u_3105 : Int32) (u_3106 : Int64) =>
     lt11 (y_X12_readBracket_1 h0_size h0_limit u_3101 u_3102 u_3103 u_3104 u_3105 h0_fault h0_place u_3106 h0_told x_3096 F_h0_tape F_h0_now F_h0_name) fun (r_3113 : Int32) (u_3118 : Int32) (u_3119 : Int32) (u_3120 : Int32) (u_3121 : Int32) (u_3122 : Int32) (u_3123 : Int32) (u_3124 : Int32) (u_3125 : Int64) (u_3126 : Int32) (u_3128 : Int32) =>
     if (r_3113 : Int32) = 0 then (
      (0, u_3118, u_3119, u_3120, u_3121, u_3122, u_3123, u_3124, u_3125, u_3126, u_3128)
     ) else (
      (1, u_3118, u_3119, u_3120, u_3121, u_3122, u_3123, u_3124, u_3125, u_3126, u_3128)
     )
    )
   )
  ) else (
   lt1 (y_X12_isWord y10_1 h0_kind h0_word) fun (r_3177 : Int32) =>
   if (r_3177 : Int32) = 0 then (
    lt1 (y10_1 + 1) fun (x_3184 : Int32) =>
    y_X12_readSaid_0_10 h0_size h0_limit h0_to h0_from h0_kind h0_number h0_sign h0_fault h0_place h0_word h0_told h0_onesMany F_h0_tape F_h0_now F_h0_name n10 y10_0 x_3184
   ) else (
    if (y10_0 : Int32) = 0 then (
     if (h0_onesMany : Int32) = 20 then (
      lt2 (y_X12_bad 4 h0_kind) fun (r_3277 : Int32) (u_3279 : Int32) =>
      (0, h0_to, h0_from, h0_kind, h0_number, h0_sign, u_3279, h0_from, h0_word, h0_told, h0_onesMany)
     ) else (
      lt1 ((h0_onesMany : Int32) + 1) fun (x_3283 : Int32) =>
      lt6 (y_X12_go h0_size h0_limit h0_to h0_number h0_sign h0_word F_h0_tape) fun (u_3288 : Int32) (u_3289 : Int32) (u_3290 : Int32) (u_3291 : Int32) (u_3292 : Int32) (u_3293 : Int64) =>
      if (y10_1 : Int32) = 17 then (
       lt11 (y_X12_readNot_1 h0_size h0_limit u_3288 u_3289 u_3290 u_3291 u_3292 h0_fault h0_place u_3293 h0_told x_3283 F_h0_tape F_h0_now F_h0_name) fun (r_3432 : Int32) (u_3437 : Int32) (u_3438 : Int32) (u_3439 : Int32) (u_3440 : Int32) (u_3441 : Int32) (u_3442 : Int32) (u_3443 : Int32) (u_3444 : Int64) (u_3445 : Int32) (u_3447 : Int32) =>
       if (r_3432 : Int32) = 0 then (
        (0, u_3437, u_3438, u_3439, u_3440, u_3441, u_3442, u_3443, u_3444, u_3445, u_3447)
       ) else (
        (1, u_3437, u_3438, u_3439, u_3440, u_3441, u_3442, u_3443, u_3444, u_3445, u_3447)
       )
      ) else (
       if (21 : Int32) ≤ y10_1 then (
        if (22 : Int32) ≤ y10_1 then (
         lt10 (y_X12_readCompare y10_1 h0_size h0_limit u_3288 u_3289 u_3290 u_3291 u_3292 h0_fault h0_place u_3293 h0_told F_h0_tape) fun (r_3308 : Int32) (u_3310 : Int32) (u_3311 : Int32) (u_3312 : Int32) (u_3313 : Int32) (u_3314 : Int32) (u_3315 : Int32) (u_3316 : Int32) (u_3317 : Int64) (u_3318 : Int32) =>
         if (r_3308 : Int32) = 0 then (
          (0, u_3310, u_3311, u_3312, u_3313, u_3314, u_3315, u_3316, u_3317, u_3318, x_3283)
         ) else (
          (1, u_3310, u_3311, u_3312, u_3313, u_3314, u_3315, u_3316, u_3317, u_3318, x_3283)
         )
        ) else (
         lt10 (y_X12_readOf y10_1 h0_size h0_limit u_3288 u_3289 u_3290 u_3291 u_3292 h0_fault h0_place u_3293 h0_told F_h0_now F_h0_name F_h0_tape) fun (r_3361 : Int32) (u_3363 : Int32) (u_3364 : Int32) (u_3365 : Int32) (u_3366 : Int32) (u_3367 : Int32) (u_3368 : Int32) (u_3369 : Int32) (u_3370 : Int64) (u_3371 : Int32) =>
         if (r_3361 : Int32) = 0 then (
          (0, u_3363, u_3364, u_3365, u_3366, u_3367, u_3368, u_3369, u_3370, u_3371, x_3283)
         ) else (
          (1, u_3363, u_3364, u_3365, u_3366, u_3367, u_3368, u_3369, u_3370, u_3371, x_3283)
         )
        )
       ) else (
        lt1 ((50 : Int32) + y10_1) fun (x_3412 : Int32) =>
        (1, u_3288, u_3289, u_3290, u_3291, u_3292, h0_fault, h0_place, u_3293, h0_told, x_3283)
       )
      )
     )
    ) else (
     if (h0_onesMany : Int32) = 20 then (
      lt2 (y_X12_bad 4 h0_kind) fun (r_3193 : Int32) (u_3195 : Int32) =>
      (0, h0_to, h0_from, h0_kind, h0_number, h0_sign, u_3195, h0_from, h0_word, h0_told, h0_onesMany)
     ) else (
      lt1 ((h0_onesMany : Int32) + 1) fun (x_3199 : Int32) =>
      lt6 (y_X12_go h0_size h0_limit h0_to h0_number h0_sign h0_word F_h0_tape) fun (u_3204 : Int32) (u_3205 : Int32) (u_3206 : Int32) (u_3207 : Int32) (u_3208 : Int32) (u_3209 : Int64) =>
      lt11 (y_X12_readBracket_1 h0_size h0_limit u_3204 u_3205 u_3206 u_3207 u_3208 h0_fault h0_place u_3209 h0_told x_3199 F_h0_tape F_h0_now F_h0_name) fun (r_3216 : Int32) (u_3221 : Int32) (u_3222 : Int32) (u_3223 : Int32) (u_3224 : Int32) (u_3225 : Int32) (u_3226 : Int32) (u_3227 : Int32) (u_3228 : Int64) (u_3229 : Int32) (u_3231 : Int32) =>
      if (r_3216 : Int32) = 0 then (
       (0, u_3221, u_3222, u_3223, u_3224, u_3225, u_3226, u_3227, u_3228, u_3229, u_3231)
      ) else (
       (1, u_3221, u_3222, u_3223, u_3224, u_3225, u_3226, u_3227, u_3228, u_3229, u_3231)
      )
     )
    )
   )
  )
theorem y_X12_readSaid_0_10_s (h0_size : Int32) (h0_limit : Int32) (h0_to : Int32) (h0_from : Int32) (h0_kind : Int32) (h0_number : Int32) (h0_sign : Int32) (h0_fault : Int32) (h0_place : Int32) (h0_word : Int64) (h0_told : Int32) (h0_onesMany : Int32) (F_h0_tape : Nat → Int32) (F_h0_now : Nat → Int32) (F_h0_name : Nat → Int64) (n10 : Nat) (y10_0 : Int32) (y10_1 : Int32) : y_X12_readSaid_0_10 h0_size h0_limit h0_to h0_from h0_kind h0_number h0_sign h0_fault h0_place h0_word h0_told h0_onesMany F_h0_tape F_h0_now F_h0_name (n10 + 1) y10_0 y10_1 = (
  if (25 : Int32) < y10_1 then (
   if (y10_0 : Int32) = 0 then (
    lt2 (y_X12_bad 1 h0_kind) fun (r_3170 : Int32) (u_3172 : Int32) =>
    (0, h0_to, h0_from, h0_kind, h0_number, h0_sign, u_3172, h0_from, h0_word, h0_told, h0_onesMany)
   ) else (
    if (h0_onesMany : Int32) = 20 then (
     lt2 (y_X12_bad 4 h0_kind) fun (r_3090 : Int32) (u_3092 : Int32) =>
     (0, h0_to, h0_from, h0_kind, h0_number, h0_sign, u_3092, h0_from, h0_word, h0_told, h0_onesMany)
    ) else (
     lt1 ((h0_onesMany : Int32) + 1) fun (x_3096 : Int32) =>
     lt6 (y_X12_go h0_size h0_limit h0_to h0_number h0_sign h0_word F_h0_tape) fun (u_3101 : Int32) (u_3102 : Int32) (u_3103 : Int32) (u_3104 : Int32) (u_3105 : Int32) (u_3106 : Int64) =>
     lt11 (y_X12_readBracket_1 h0_size h0_limit u_3101 u_3102 u_3103 u_3104 u_3105 h0_fault h0_place u_3106 h0_told x_3096 F_h0_tape F_h0_now F_h0_name) fun (r_3113 : Int32) (u_3118 : Int32) (u_3119 : Int32) (u_3120 : Int32) (u_3121 : Int32) (u_3122 : Int32) (u_3123 : Int32) (u_3124 : Int32) (u_3125 : Int64) (u_3126 : Int32) (u_3128 : Int32) =>
     if (r_3113 : Int32) = 0 then (
      (0, u_3118, u_3119, u_3120, u_3121, u_3122, u_3123, u_3124, u_3125, u_3126, u_3128)
     ) else (
      (1, u_3118, u_3119, u_3120, u_3121, u_3122, u_3123, u_3124, u_3125, u_3126, u_3128)
     )
    )
   )
  ) else (
   lt1 (y_X12_isWord y10_1 h0_kind h0_word) fun (r_3177 : Int32) =>
   if (r_3177 : Int32) = 0 then (
    lt1 (y10_1 + 1) fun (x_3184 : Int32) =>
    y_X12_readSaid_0_10 h0_size h0_limit h0_to h0_from h0_kind h0_number h0_sign h0_fault h0_place h0_word h0_told h0_onesMany F_h0_tape F_h0_now F_h0_name n10 y10_0 x_3184
   ) else (
    if (y10_0 : Int32) = 0 then (
     if (h0_onesMany : Int32) = 20 then (
      lt2 (y_X12_bad 4 h0_kind) fun (r_3277 : Int32) (u_3279 : Int32) =>
      (0, h0_to, h0_from, h0_kind, h0_number, h0_sign, u_3279, h0_from, h0_word, h0_told, h0_onesMany)
     ) else (
      lt1 ((h0_onesMany : Int32) + 1) fun (x_3283 : Int32) =>
      lt6 (y_X12_go h0_size h0_limit h0_to h0_number h0_sign h0_word F_h0_tape) fun (u_3288 : Int32) (u_3289 : Int32) (u_3290 : Int32) (u_3291 : Int32) (u_3292 : Int32) (u_3293 : Int64) =>
      if (y10_1 : Int32) = 17 then (
       lt11 (y_X12_readNot_1 h0_size h0_limit u_3288 u_3289 u_3290 u_3291 u_3292 h0_fault h0_place u_3293 h0_told x_3283 F_h0_tape F_h0_now F_h0_name) fun (r_3432 : Int32) (u_3437 : Int32) (u_3438 : Int32) (u_3439 : Int32) (u_3440 : Int32) (u_3441 : Int32) (u_3442 : Int32) (u_3443 : Int32) (u_3444 : Int64) (u_3445 : Int32) (u_3447 : Int32) =>
       if (r_3432 : Int32) = 0 then (
        (0, u_3437, u_3438, u_3439, u_3440, u_3441, u_3442, u_3443, u_3444, u_3445, u_3447)
       ) else (
        (1, u_3437, u_3438, u_3439, u_3440, u_3441, u_3442, u_3443, u_3444, u_3445, u_3447)
       )
      ) else (
       if (21 : Int32) ≤ y10_1 then (
        if (22 : Int32) ≤ y10_1 then (
         lt10 (y_X12_readCompare y10_1 h0_size h0_limit u_3288 u_3289 u_3290 u_3291 u_3292 h0_fault h0_place u_3293 h0_told F_h0_tape) fun (r_3308 : Int32) (u_3310 : Int32) (u_3311 : Int32) (u_3312 : Int32) (u_3313 : Int32) (u_3314 : Int32) (u_3315 : Int32) (u_3316 : Int32) (u_3317 : Int64) (u_3318 : Int32) =>
         if (r_3308 : Int32) = 0 then (
          (0, u_3310, u_3311, u_3312, u_3313, u_3314, u_3315, u_3316, u_3317, u_3318, x_3283)
         ) else (
          (1, u_3310, u_3311, u_3312, u_3313, u_3314, u_3315, u_3316, u_3317, u_3318, x_3283)
         )
        ) else (
         lt10 (y_X12_readOf y10_1 h0_size h0_limit u_3288 u_3289 u_3290 u_3291 u_3292 h0_fault h0_place u_3293 h0_told F_h0_now F_h0_name F_h0_tape) fun (r_3361 : Int32) (u_3363 : Int32) (u_3364 : Int32) (u_3365 : Int32) (u_3366 : Int32) (u_3367 : Int32) (u_3368 : Int32) (u_3369 : Int32) (u_3370 : Int64) (u_3371 : Int32) =>
         if (r_3361 : Int32) = 0 then (
          (0, u_3363, u_3364, u_3365, u_3366, u_3367, u_3368, u_3369, u_3370, u_3371, x_3283)
         ) else (
          (1, u_3363, u_3364, u_3365, u_3366, u_3367, u_3368, u_3369, u_3370, u_3371, x_3283)
         )
        )
       ) else (
        lt1 ((50 : Int32) + y10_1) fun (x_3412 : Int32) =>
        (1, u_3288, u_3289, u_3290, u_3291, u_3292, h0_fault, h0_place, u_3293, h0_told, x_3283)
       )
      )
     )
    ) else (
     if (h0_onesMany : Int32) = 20 then (
      lt2 (y_X12_bad 4 h0_kind) fun (r_3193 : Int32) (u_3195 : Int32) =>
      (0, h0_to, h0_from, h0_kind, h0_number, h0_sign, u_3195, h0_from, h0_word, h0_told, h0_onesMany)
     ) else (
      lt1 ((h0_onesMany : Int32) + 1) fun (x_3199 : Int32) =>
      lt6 (y_X12_go h0_size h0_limit h0_to h0_number h0_sign h0_word F_h0_tape) fun (u_3204 : Int32) (u_3205 : Int32) (u_3206 : Int32) (u_3207 : Int32) (u_3208 : Int32) (u_3209 : Int64) =>
      lt11 (y_X12_readBracket_1 h0_size h0_limit u_3204 u_3205 u_3206 u_3207 u_3208 h0_fault h0_place u_3209 h0_told x_3199 F_h0_tape F_h0_now F_h0_name) fun (r_3216 : Int32) (u_3221 : Int32) (u_3222 : Int32) (u_3223 : Int32) (u_3224 : Int32) (u_3225 : Int32) (u_3226 : Int32) (u_3227 : Int32) (u_3228 : Int64) (u_3229 : Int32) (u_3231 : Int32) =>
      if (r_3216 : Int32) = 0 then (
       (0, u_3221, u_3222, u_3223, u_3224, u_3225, u_3226, u_3227, u_3228, u_3229, u_3231)
      ) else (
       (1, u_3221, u_3222, u_3223, u_3224, u_3225, u_3226, u_3227, u_3228, u_3229, u_3231)
      )
     )
    )
   )
  )) := rfl
def y_X12_readSaid_0 (h0_size : Int32) (h0_limit : Int32) (h0_to : Int32) (h0_from : Int32) (h0_kind : Int32) (h0_number : Int32) (h0_sign : Int32) (h0_fault : Int32) (h0_place : Int32) (h0_word : Int64) (h0_told : Int32) (h0_onesMany : Int32) (F_h0_tape : Nat → Int32) (F_h0_now : Nat → Int32) (F_h0_name : Nat → Int64)  : Int32 × Int32 × Int32 × Int32 × Int32 × Int32 × Int32 × Int32 × Int64 × Int32 × Int32 :=
  lt1 (y_X12_isSign 40 h0_kind h0_sign) fun (r_3488 : Int32) =>
  if (r_3488 : Int32) = 0 then (
   y_X12_readSaid_0_10 h0_size h0_limit h0_to h0_from h0_kind h0_number h0_sign h0_fault h0_place h0_word h0_told h0_onesMany F_h0_tape F_h0_now F_h0_name 10 0 17
  ) else (
   y_X12_readSaid_0_10 h0_size h0_limit h0_to h0_from h0_kind h0_number h0_sign h0_fault h0_place h0_word h0_told h0_onesMany F_h0_tape F_h0_now F_h0_name 10 1 17
  )
theorem y_X12_readSaid_0_s (h0_size : Int32) (h0_limit : Int32) (h0_to : Int32) (h0_from : Int32) (h0_kind : Int32) (h0_number : Int32) (h0_sign : Int32) (h0_fault : Int32) (h0_place : Int32) (h0_word : Int64) (h0_told : Int32) (h0_onesMany : Int32) (F_h0_tape : Nat → Int32) (F_h0_now : Nat → Int32) (F_h0_name : Nat → Int64)  : y_X12_readSaid_0 h0_size h0_limit h0_to h0_from h0_kind h0_number h0_sign h0_fault h0_place h0_word h0_told h0_onesMany F_h0_tape F_h0_now F_h0_name = (
  lt1 (y_X12_isSign 40 h0_kind h0_sign) fun (r_3488 : Int32) =>
  if (r_3488 : Int32) = 0 then (
   y_X12_readSaid_0_10 h0_size h0_limit h0_to h0_from h0_kind h0_number h0_sign h0_fault h0_place h0_word h0_told h0_onesMany F_h0_tape F_h0_now F_h0_name 10 0 17
  ) else (
   y_X12_readSaid_0_10 h0_size h0_limit h0_to h0_from h0_kind h0_number h0_sign h0_fault h0_place h0_word h0_told h0_onesMany F_h0_tape F_h0_now F_h0_name 10 1 17
  )) := rfl
def y_X12_readAnd_0_14 (h0_size : Int32) (h0_limit : Int32) (F_h0_tape : Nat → Int32) (F_h0_now : Nat → Int32) (F_h0_name : Nat → Int64) : Nat → Int32 → Int32 → Int32 → Int32 → Int32 → Int32 → Int32 → Int64 → Int32 → Int32 → (Int32 × Int32 × Int32 × Int32 × Int32 × Int32 × Int32 × Int32 × Int64 × Int32 × Int32)
 | 0, _, _, _, _, _, _, _, _, _, _ => (0, 0, 0, 0, 0, 0, 0, 0, 0, 0, 0)
 | n14 + 1, y14_1, y14_2, y14_3, y14_4, y14_5, y14_6, y14_7, y14_8, y14_9, y14_11 =>
  lt1 (y_X12_isWord_16 y14_3 y14_8) fun (r_243 : Int32) =>
  if (r_243 : Int32) = 0 then (
   (1, y14_1, y14_2, y14_3, y14_4, y14_5, y14_6, y14_7, y14_8, y14_9, y14_11)
  ) else (
   lt6 (y_X12_go h0_size h0_limit y14_1 y14_4 y14_5 y14_8 F_h0_tape) fun (u_252 : Int32) (u_253 : Int32) (u_254 : Int32) (u_255 : Int32) (u_256 : Int32) (u_257 : Int64) =>
   lt11 (y_X12_readSaid_0 h0_size h0_limit u_252 u_253 u_254 u_255 u_256 y14_6 y14_7 u_257 y14_9 y14_11 F_h0_tape F_h0_now F_h0_name) fun (r_264 : Int32) (u_269 : Int32) (u_270 : Int32) (u_271 : Int32) (u_272 : Int32) (u_273 : Int32) (u_274 : Int32) (u_275 : Int32) (u_276 : Int64) (u_277 : Int32) (u_279 : Int32) =>
   if (r_264 : Int32) = 0 then (
    (0, u_269, u_270, u_271, u_272, u_273, u_274, u_275, u_276, u_277, u_279)
   ) else (
    y_X12_readAnd_0_14 h0_size h0_limit F_h0_tape F_h0_now F_h0_name n14 u_269 u_270 u_271 u_272 u_273 u_274 u_275 u_276 u_277 u_279
   )
  )
theorem y_X12_readAnd_0_14_s (h0_size : Int32) (h0_limit : Int32) (F_h0_tape : Nat → Int32) (F_h0_now : Nat → Int32) (F_h0_name : Nat → Int64) (n14 : Nat) (y14_1 : Int32) (y14_2 : Int32) (y14_3 : Int32) (y14_4 : Int32) (y14_5 : Int32) (y14_6 : Int32) (y14_7 : Int32) (y14_8 : Int64) (y14_9 : Int32) (y14_11 : Int32) : y_X12_readAnd_0_14 h0_size h0_limit F_h0_tape F_h0_now F_h0_name (n14 + 1) y14_1 y14_2 y14_3 y14_4 y14_5 y14_6 y14_7 y14_8 y14_9 y14_11 = (
  lt1 (y_X12_isWord_16 y14_3 y14_8) fun (r_243 : Int32) =>
  if (r_243 : Int32) = 0 then (
   (1, y14_1, y14_2, y14_3, y14_4, y14_5, y14_6, y14_7, y14_8, y14_9, y14_11)
  ) else (
   lt6 (y_X12_go h0_size h0_limit y14_1 y14_4 y14_5 y14_8 F_h0_tape) fun (u_252 : Int32) (u_253 : Int32) (u_254 : Int32) (u_255 : Int32) (u_256 : Int32) (u_257 : Int64) =>
   lt11 (y_X12_readSaid_0 h0_size h0_limit u_252 u_253 u_254 u_255 u_256 y14_6 y14_7 u_257 y14_9 y14_11 F_h0_tape F_h0_now F_h0_name) fun (r_264 : Int32) (u_269 : Int32) (u_270 : Int32) (u_271 : Int32) (u_272 : Int32) (u_273 : Int32) (u_274 : Int32) (u_275 : Int32) (u_276 : Int64) (u_277 : Int32) (u_279 : Int32) =>
   if (r_264 : Int32) = 0 then (
    (0, u_269, u_270, u_271, u_272, u_273, u_274, u_275, u_276, u_277, u_279)
   ) else (
    y_X12_readAnd_0_14 h0_size h0_limit F_h0_tape F_h0_now F_h0_name n14 u_269 u_270 u_271 u_272 u_273 u_274 u_275 u_276 u_277 u_279
   )
  )) := rfl
def y_X12_readAnd_0 (h0_size : Int32) (h0_limit : Int32) (h0_to : Int32) (h0_from : Int32) (h0_kind : Int32) (h0_number : Int32) (h0_sign : Int32) (h0_fault : Int32) (h0_place : Int32) (h0_word : Int64) (h0_told : Int32) (h0_onesMany : Int32) (F_h0_tape : Nat → Int32) (F_h0_now : Nat → Int32) (F_h0_name : Nat → Int64)  : Int32 × Int32 × Int32 × Int32 × Int32 × Int32 × Int32 × Int32 × Int64 × Int32 × Int32 :=
  lt11 (y_X12_readSaid_0 h0_size h0_limit h0_to h0_from h0_kind h0_number h0_sign h0_fault h0_place h0_word h0_told h0_onesMany F_h0_tape F_h0_now F_h0_name) fun (r_340 : Int32) (u_345 : Int32) (u_346 : Int32) (u_347 : Int32) (u_348 : Int32) (u_349 : Int32) (u_350 : Int32) (u_351 : Int32) (u_352 : Int64) (u_353 : Int32) (u_355 : Int32) =>
  if (r_340 : Int32) = 0 then (
   (0, u_345, u_346, u_347, u_348, u_349, u_350, u_351, u_352, u_353, u_355)
  ) else (
   y_X12_readAnd_0_14 h0_size h0_limit F_h0_tape F_h0_now F_h0_name 60 u_345 u_346 u_347 u_348 u_349 u_350 u_351 u_352 u_353 u_355
  )
theorem y_X12_readAnd_0_s (h0_size : Int32) (h0_limit : Int32) (h0_to : Int32) (h0_from : Int32) (h0_kind : Int32) (h0_number : Int32) (h0_sign : Int32) (h0_fault : Int32) (h0_place : Int32) (h0_word : Int64) (h0_told : Int32) (h0_onesMany : Int32) (F_h0_tape : Nat → Int32) (F_h0_now : Nat → Int32) (F_h0_name : Nat → Int64)  : y_X12_readAnd_0 h0_size h0_limit h0_to h0_from h0_kind h0_number h0_sign h0_fault h0_place h0_word h0_told h0_onesMany F_h0_tape F_h0_now F_h0_name = (
  lt11 (y_X12_readSaid_0 h0_size h0_limit h0_to h0_from h0_kind h0_number h0_sign h0_fault h0_place h0_word h0_told h0_onesMany F_h0_tape F_h0_now F_h0_name) fun (r_340 : Int32) (u_345 : Int32) (u_346 : Int32) (u_347 : Int32) (u_348 : Int32) (u_349 : Int32) (u_350 : Int32) (u_351 : Int32) (u_352 : Int64) (u_353 : Int32) (u_355 : Int32) =>
  if (r_340 : Int32) = 0 then (
   (0, u_345, u_346, u_347, u_348, u_349, u_350, u_351, u_352, u_353, u_355)
  ) else (
   y_X12_readAnd_0_14 h0_size h0_limit F_h0_tape F_h0_now F_h0_name 60 u_345 u_346 u_347 u_348 u_349 u_350 u_351 u_352 u_353 u_355
  )) := rfl
def y_X12_readOr_0_14 (h0_size : Int32) (h0_limit : Int32) (F_h0_tape : Nat → Int32) (F_h0_now : Nat → Int32) (F_h0_name : Nat → Int64) : Nat → Int32 → Int32 → Int32 → Int32 → Int32 → Int32 → Int32 → Int64 → Int32 → Int32 → (Int32 × Int32 × Int32 × Int32 × Int32 × Int32 × Int32 × Int32 × Int64 × Int32 × Int32)
 | 0, _, _, _, _, _, _, _, _, _, _ => (0, 0, 0, 0, 0, 0, 0, 0, 0, 0, 0)
 | n14 + 1, y14_1, y14_2, y14_3, y14_4, y14_5, y14_6, y14_7, y14_8, y14_9, y14_11 =>
  lt1 (y_X12_isWord_15 y14_3 y14_8) fun (r_243 : Int32) =>
  if (r_243 : Int32) = 0 then (
   (1, y14_1, y14_2, y14_3, y14_4, y14_5, y14_6, y14_7, y14_8, y14_9, y14_11)
  ) else (
   lt6 (y_X12_go h0_size h0_limit y14_1 y14_4 y14_5 y14_8 F_h0_tape) fun (u_252 : Int32) (u_253 : Int32) (u_254 : Int32) (u_255 : Int32) (u_256 : Int32) (u_257 : Int64) =>
   lt11 (y_X12_readAnd_0 h0_size h0_limit u_252 u_253 u_254 u_255 u_256 y14_6 y14_7 u_257 y14_9 y14_11 F_h0_tape F_h0_now F_h0_name) fun (r_264 : Int32) (u_269 : Int32) (u_270 : Int32) (u_271 : Int32) (u_272 : Int32) (u_273 : Int32) (u_274 : Int32) (u_275 : Int32) (u_276 : Int64) (u_277 : Int32) (u_279 : Int32) =>
   if (r_264 : Int32) = 0 then (
    (0, u_269, u_270, u_271, u_272, u_273, u_274, u_275, u_276, u_277, u_279)
   ) else (
    y_X12_readOr_0_14 h0_size h0_limit F_h0_tape F_h0_now F_h0_name n14 u_269 u_270 u_271 u_272 u_273 u_274 u_275 u_276 u_277 u_279
   )
  )
theorem y_X12_readOr_0_14_s (h0_size : Int32) (h0_limit : Int32) (F_h0_tape : Nat → Int32) (F_h0_now : Nat → Int32) (F_h0_name : Nat → Int64) (n14 : Nat) (y14_1 : Int32) (y14_2 : Int32) (y14_3 : Int32) (y14_4 : Int32) (y14_5 : Int32) (y14_6 : Int32) (y14_7 : Int32) (y14_8 : Int64) (y14_9 : Int32) (y14_11 : Int32) : y_X12_readOr_0_14 h0_size h0_limit F_h0_tape F_h0_now F_h0_name (n14 + 1) y14_1 y14_2 y14_3 y14_4 y14_5 y14_6 y14_7 y14_8 y14_9 y14_11 = (
  lt1 (y_X12_isWord_15 y14_3 y14_8) fun (r_243 : Int32) =>
  if (r_243 : Int32) = 0 then (
   (1, y14_1, y14_2, y14_3, y14_4, y14_5, y14_6, y14_7, y14_8, y14_9, y14_11)
  ) else (
   lt6 (y_X12_go h0_size h0_limit y14_1 y14_4 y14_5 y14_8 F_h0_tape) fun (u_252 : Int32) (u_253 : Int32) (u_254 : Int32) (u_255 : Int32) (u_256 : Int32) (u_257 : Int64) =>
   lt11 (y_X12_readAnd_0 h0_size h0_limit u_252 u_253 u_254 u_255 u_256 y14_6 y14_7 u_257 y14_9 y14_11 F_h0_tape F_h0_now F_h0_name) fun (r_264 : Int32) (u_269 : Int32) (u_270 : Int32) (u_271 : Int32) (u_272 : Int32) (u_273 : Int32) (u_274 : Int32) (u_275 : Int32) (u_276 : Int64) (u_277 : Int32) (u_279 : Int32) =>
   if (r_264 : Int32) = 0 then (
    (0, u_269, u_270, u_271, u_272, u_273, u_274, u_275, u_276, u_277, u_279)
   ) else (
    y_X12_readOr_0_14 h0_size h0_limit F_h0_tape F_h0_now F_h0_name n14 u_269 u_270 u_271 u_272 u_273 u_274 u_275 u_276 u_277 u_279
   )
  )) := rfl
def y_X12_readOr_0 (h0_size : Int32) (h0_limit : Int32) (h0_to : Int32) (h0_from : Int32) (h0_kind : Int32) (h0_number : Int32) (h0_sign : Int32) (h0_fault : Int32) (h0_place : Int32) (h0_word : Int64) (h0_told : Int32) (h0_onesMany : Int32) (F_h0_tape : Nat → Int32) (F_h0_now : Nat → Int32) (F_h0_name : Nat → Int64)  : Int32 × Int32 × Int32 × Int32 × Int32 × Int32 × Int32 × Int32 × Int64 × Int32 × Int32 :=
  lt11 (y_X12_readAnd_0 h0_size h0_limit h0_to h0_from h0_kind h0_number h0_sign h0_fault h0_place h0_word h0_told h0_onesMany F_h0_tape F_h0_now F_h0_name) fun (r_340 : Int32) (u_345 : Int32) (u_346 : Int32) (u_347 : Int32) (u_348 : Int32) (u_349 : Int32) (u_350 : Int32) (u_351 : Int32) (u_352 : Int64) (u_353 : Int32) (u_355 : Int32) =>
  if (r_340 : Int32) = 0 then (
   (0, u_345, u_346, u_347, u_348, u_349, u_350, u_351, u_352, u_353, u_355)
  ) else (
   y_X12_readOr_0_14 h0_size h0_limit F_h0_tape F_h0_now F_h0_name 60 u_345 u_346 u_347 u_348 u_349 u_350 u_351 u_352 u_353 u_355
  )
theorem y_X12_readOr_0_s (h0_size : Int32) (h0_limit : Int32) (h0_to : Int32) (h0_from : Int32) (h0_kind : Int32) (h0_number : Int32) (h0_sign : Int32) (h0_fault : Int32) (h0_place : Int32) (h0_word : Int64) (h0_told : Int32) (h0_onesMany : Int32) (F_h0_tape : Nat → Int32) (F_h0_now : Nat → Int32) (F_h0_name : Nat → Int64)  : y_X12_readOr_0 h0_size h0_limit h0_to h0_from h0_kind h0_number h0_sign h0_fault h0_place h0_word h0_told h0_onesMany F_h0_tape F_h0_now F_h0_name = (
  lt11 (y_X12_readAnd_0 h0_size h0_limit h0_to h0_from h0_kind h0_number h0_sign h0_fault h0_place h0_word h0_told h0_onesMany F_h0_tape F_h0_now F_h0_name) fun (r_340 : Int32) (u_345 : Int32) (u_346 : Int32) (u_347 : Int32) (u_348 : Int32) (u_349 : Int32) (u_350 : Int32) (u_351 : Int32) (u_352 : Int64) (u_353 : Int32) (u_355 : Int32) =>
  if (r_340 : Int32) = 0 then (
   (0, u_345, u_346, u_347, u_348, u_349, u_350, u_351, u_352, u_353, u_355)
  ) else (
   y_X12_readOr_0_14 h0_size h0_limit F_h0_tape F_h0_now F_h0_name 60 u_345 u_346 u_347 u_348 u_349 u_350 u_351 u_352 u_353 u_355
  )) := rfl
def y_X12_sentence_79  : Nat → Int32 → Int32 → Int32 → (Int32 × Int32)
 | 0, _, _, _ => (0, 0)
 | n79 + 1, y79_0, y79_6, y79_11 =>
  if (240 : Int32) ≤ y79_0 then (
   (y79_11, y79_6)
  ) else (
   lt1 (y79_0 + 1) fun (x_662 : Int32) =>
   y_X12_sentence_79 n79 x_662 y79_6 y79_11
  )
theorem y_X12_sentence_79_s  (n79 : Nat) (y79_0 : Int32) (y79_6 : Int32) (y79_11 : Int32) : y_X12_sentence_79 (n79 + 1) y79_0 y79_6 y79_11 = (
  if (240 : Int32) ≤ y79_0 then (
   (y79_11, y79_6)
  ) else (
   lt1 (y79_0 + 1) fun (x_662 : Int32) =>
   y_X12_sentence_79 n79 x_662 y79_6 y79_11
  )) := rfl
def y_X12_sentence (h0_taped : Int32) (h0_number : Int32) (h0_sign : Int32) (h0_place : Int32) (h0_word : Int64) (h0_told : Int32) (F_h0_tape : Nat → Int32) (F_h0_now : Nat → Int32) (F_h0_name : Nat → Int64)  : Int32 × Int32 :=
  lt6 (y_X12_begin 200 h0_taped h0_number h0_sign h0_word F_h0_tape) fun (u_667 : Int32) (u_668 : Int32) (u_669 : Int32) (u_670 : Int32) (u_671 : Int32) (u_672 : Int64) =>
  lt11 (y_X12_readOr_0 h0_taped 200 u_667 u_668 u_669 u_670 u_671 0 h0_place u_672 h0_told 0 F_h0_tape F_h0_now F_h0_name) fun (r_678 : Int32) (u_683 : Int32) (u_684 : Int32) (u_685 : Int32) (u_686 : Int32) (u_687 : Int32) (u_688 : Int32) (u_689 : Int32) (u_690 : Int64) (u_691 : Int32) (u_693 : Int32) =>
  if (r_678 : Int32) = 0 then (
   lt1 (((-1) : Int32) - u_689) fun (x_728 : Int32) =>
   (x_728, u_688)
  ) else (
   if (u_685 : Int32) = 0 then (
    y_X12_sentence_79 241 0 u_688 u_693
   ) else (
    lt2 (y_X12_bad 1 u_685) fun (r_763 : Int32) (u_765 : Int32) =>
    lt1 (((-1) : Int32) - u_684) fun (x_768 : Int32) =>
    (x_768, u_765)
   )
  )
theorem y_X12_sentence_s (h0_taped : Int32) (h0_number : Int32) (h0_sign : Int32) (h0_place : Int32) (h0_word : Int64) (h0_told : Int32) (F_h0_tape : Nat → Int32) (F_h0_now : Nat → Int32) (F_h0_name : Nat → Int64)  : y_X12_sentence h0_taped h0_number h0_sign h0_place h0_word h0_told F_h0_tape F_h0_now F_h0_name = (
  lt6 (y_X12_begin 200 h0_taped h0_number h0_sign h0_word F_h0_tape) fun (u_667 : Int32) (u_668 : Int32) (u_669 : Int32) (u_670 : Int32) (u_671 : Int32) (u_672 : Int64) =>
  lt11 (y_X12_readOr_0 h0_taped 200 u_667 u_668 u_669 u_670 u_671 0 h0_place u_672 h0_told 0 F_h0_tape F_h0_now F_h0_name) fun (r_678 : Int32) (u_683 : Int32) (u_684 : Int32) (u_685 : Int32) (u_686 : Int32) (u_687 : Int32) (u_688 : Int32) (u_689 : Int32) (u_690 : Int64) (u_691 : Int32) (u_693 : Int32) =>
  if (r_678 : Int32) = 0 then (
   lt1 (((-1) : Int32) - u_689) fun (x_728 : Int32) =>
   (x_728, u_688)
  ) else (
   if (u_685 : Int32) = 0 then (
    y_X12_sentence_79 241 0 u_688 u_693
   ) else (
    lt2 (y_X12_bad 1 u_685) fun (r_763 : Int32) (u_765 : Int32) =>
    lt1 (((-1) : Int32) - u_684) fun (x_768 : Int32) =>
    (x_768, u_765)
   )
  )) := rfl
def y_X1_firstAct (h0_reader_letters : Int64) (h0_reader_kind : Int32)  : Int32 :=
  lt1 (y_X6_sees h0_reader_letters h0_reader_kind 12) fun (r_22 : Int32) =>
  if (r_22 : Int32) = 0 then (
   lt1 (y_X6_sees h0_reader_letters h0_reader_kind 13) fun (r_29 : Int32) =>
   if (r_29 : Int32) = 0 then (
    lt1 (y_X6_sees h0_reader_letters h0_reader_kind 14) fun (r_36 : Int32) =>
    if (r_36 : Int32) = 0 then (
     (-1)
    ) else (
     7
    )
   ) else (
    6
   )
  ) else (
   5
  )
theorem y_X1_firstAct_s (h0_reader_letters : Int64) (h0_reader_kind : Int32)  : y_X1_firstAct h0_reader_letters h0_reader_kind = (
  lt1 (y_X6_sees h0_reader_letters h0_reader_kind 12) fun (r_22 : Int32) =>
  if (r_22 : Int32) = 0 then (
   lt1 (y_X6_sees h0_reader_letters h0_reader_kind 13) fun (r_29 : Int32) =>
   if (r_29 : Int32) = 0 then (
    lt1 (y_X6_sees h0_reader_letters h0_reader_kind 14) fun (r_36 : Int32) =>
    if (r_36 : Int32) = 0 then (
     (-1)
    ) else (
     7
    )
   ) else (
    6
   )
  ) else (
   5
  )) := rfl
def y_X1_takeJurorsAct (h0_reader_length : Int32) (h0_reader_faultKind : Int32) (h0_reader_faultAt : Int32) (h0_reader_letters : Int64) (h0_reader_mostBytes : Int32) (h0_reader_behind : Int32) (h0_reader_at : Int32) (h0_reader_kind : Int32) (h0_reader_number : Int32) (F_h0_reader_bytes : Nat → Int32)  : Int32 × Int32 × Int32 × Int64 × Int32 × Int32 × Int32 × Int32 :=
  lt6 (y_X6_takeIf h0_reader_length h0_reader_faultKind h0_reader_letters h0_reader_mostBytes h0_reader_behind h0_reader_at h0_reader_kind h0_reader_number F_h0_reader_bytes 7) fun (r_125 : Int32) (u_127 : Int64) (u_128 : Int32) (u_129 : Int32) (u_130 : Int32) (u_131 : Int32) =>
  if (r_125 : Int32) = 0 then (
   lt6 (y_X6_takeIf h0_reader_length h0_reader_faultKind u_127 h0_reader_mostBytes u_128 u_129 u_130 u_131 F_h0_reader_bytes 8) fun (r_148 : Int32) (u_150 : Int64) (u_151 : Int32) (u_152 : Int32) (u_153 : Int32) (u_154 : Int32) =>
   if (r_148 : Int32) = 0 then (
    lt6 (y_X6_takeIf h0_reader_length h0_reader_faultKind u_150 h0_reader_mostBytes u_151 u_152 u_153 u_154 F_h0_reader_bytes 9) fun (r_171 : Int32) (u_173 : Int64) (u_174 : Int32) (u_175 : Int32) (u_176 : Int32) (u_177 : Int32) =>
    if (r_171 : Int32) = 0 then (
     lt6 (y_X6_takeIf h0_reader_length h0_reader_faultKind u_173 h0_reader_mostBytes u_174 u_175 u_176 u_177 F_h0_reader_bytes 10) fun (r_194 : Int32) (u_196 : Int64) (u_197 : Int32) (u_198 : Int32) (u_199 : Int32) (u_200 : Int32) =>
     if (r_194 : Int32) = 0 then (
      lt6 (y_X6_takeIf h0_reader_length h0_reader_faultKind u_196 h0_reader_mostBytes u_197 u_198 u_199 u_200 F_h0_reader_bytes 11) fun (r_217 : Int32) (u_219 : Int64) (u_220 : Int32) (u_221 : Int32) (u_222 : Int32) (u_223 : Int32) =>
      if (r_217 : Int32) = 0 then (
       lt4 (y_X6_fail 1 h0_reader_faultKind h0_reader_faultAt u_219 u_221 u_222) fun (u_242 : Int32) (u_243 : Int32) (u_244 : Int64) (u_245 : Int32) =>
       ((-1), u_242, u_243, u_244, u_220, u_221, u_245, u_223)
      ) else (
       (4, h0_reader_faultKind, h0_reader_faultAt, u_219, u_220, u_221, u_222, u_223)
      )
     ) else (
      (3, h0_reader_faultKind, h0_reader_faultAt, u_196, u_197, u_198, u_199, u_200)
     )
    ) else (
     (2, h0_reader_faultKind, h0_reader_faultAt, u_173, u_174, u_175, u_176, u_177)
    )
   ) else (
    (1, h0_reader_faultKind, h0_reader_faultAt, u_150, u_151, u_152, u_153, u_154)
   )
  ) else (
   (0, h0_reader_faultKind, h0_reader_faultAt, u_127, u_128, u_129, u_130, u_131)
  )
theorem y_X1_takeJurorsAct_s (h0_reader_length : Int32) (h0_reader_faultKind : Int32) (h0_reader_faultAt : Int32) (h0_reader_letters : Int64) (h0_reader_mostBytes : Int32) (h0_reader_behind : Int32) (h0_reader_at : Int32) (h0_reader_kind : Int32) (h0_reader_number : Int32) (F_h0_reader_bytes : Nat → Int32)  : y_X1_takeJurorsAct h0_reader_length h0_reader_faultKind h0_reader_faultAt h0_reader_letters h0_reader_mostBytes h0_reader_behind h0_reader_at h0_reader_kind h0_reader_number F_h0_reader_bytes = (
  lt6 (y_X6_takeIf h0_reader_length h0_reader_faultKind h0_reader_letters h0_reader_mostBytes h0_reader_behind h0_reader_at h0_reader_kind h0_reader_number F_h0_reader_bytes 7) fun (r_125 : Int32) (u_127 : Int64) (u_128 : Int32) (u_129 : Int32) (u_130 : Int32) (u_131 : Int32) =>
  if (r_125 : Int32) = 0 then (
   lt6 (y_X6_takeIf h0_reader_length h0_reader_faultKind u_127 h0_reader_mostBytes u_128 u_129 u_130 u_131 F_h0_reader_bytes 8) fun (r_148 : Int32) (u_150 : Int64) (u_151 : Int32) (u_152 : Int32) (u_153 : Int32) (u_154 : Int32) =>
   if (r_148 : Int32) = 0 then (
    lt6 (y_X6_takeIf h0_reader_length h0_reader_faultKind u_150 h0_reader_mostBytes u_151 u_152 u_153 u_154 F_h0_reader_bytes 9) fun (r_171 : Int32) (u_173 : Int64) (u_174 : Int32) (u_175 : Int32) (u_176 : Int32) (u_177 : Int32) =>
    if (r_171 : Int32) = 0 then (
     lt6 (y_X6_takeIf h0_reader_length h0_reader_faultKind u_173 h0_reader_mostBytes u_174 u_175 u_176 u_177 F_h0_reader_bytes 10) fun (r_194 : Int32) (u_196 : Int64) (u_197 : Int32) (u_198 : Int32) (u_199 : Int32) (u_200 : Int32) =>
     if (r_194 : Int32) = 0 then (
      lt6 (y_X6_takeIf h0_reader_length h0_reader_faultKind u_196 h0_reader_mostBytes u_197 u_198 u_199 u_200 F_h0_reader_bytes 11) fun (r_217 : Int32) (u_219 : Int64) (u_220 : Int32) (u_221 : Int32) (u_222 : Int32) (u_223 : Int32) =>
      if (r_217 : Int32) = 0 then (
       lt4 (y_X6_fail 1 h0_reader_faultKind h0_reader_faultAt u_219 u_221 u_222) fun (u_242 : Int32) (u_243 : Int32) (u_244 : Int64) (u_245 : Int32) =>
       ((-1), u_242, u_243, u_244, u_220, u_221, u_245, u_223)
      ) else (
       (4, h0_reader_faultKind, h0_reader_faultAt, u_219, u_220, u_221, u_222, u_223)
      )
     ) else (
      (3, h0_reader_faultKind, h0_reader_faultAt, u_196, u_197, u_198, u_199, u_200)
     )
    ) else (
     (2, h0_reader_faultKind, h0_reader_faultAt, u_173, u_174, u_175, u_176, u_177)
    )
   ) else (
    (1, h0_reader_faultKind, h0_reader_faultAt, u_150, u_151, u_152, u_153, u_154)
   )
  ) else (
   (0, h0_reader_faultKind, h0_reader_faultAt, u_127, u_128, u_129, u_130, u_131)
  )) := rfl
def y_X1_readLine (h0_lines : Int32) (h0_reader_length : Int32) (h0_reader_faultKind : Int32) (h0_reader_faultAt : Int32) (h0_reader_letters : Int64) (h0_reader_mostBytes : Int32) (h0_reader_behind : Int32) (h0_reader_at : Int32) (h0_reader_kind : Int32) (h0_reader_number : Int32) (r1_jurors : Int32) (r1_cases : Int32) (F_r1_jurorName : Nat → Int64) (F_h0_reader_bytes : Nat → Int32) (F_r1_caseName : Nat → Int64)  : Int32 × Int32 × Int32 × Int64 × Int32 × Int32 × Int32 × Int32 :=
  lt1 (y_X1_firstAct h0_reader_letters h0_reader_kind) fun (r_652 : Int32) =>
  if (r_652 : Int32) = (-1) then (
   lt1 (y_X5_jurorNamed h0_reader_letters r1_jurors F_r1_jurorName) fun (r_665 : Int32) =>
   lt1 (y_X6_seesName h0_reader_letters h0_reader_kind) fun (r_669 : Int32) =>
   if (r_669 : Int32) = 0 then (
    lt4 (y_X6_fail 1 h0_reader_faultKind h0_reader_faultAt h0_reader_letters h0_reader_at h0_reader_kind) fun (u_678 : Int32) (u_679 : Int32) (u_680 : Int64) (u_681 : Int32) =>
    lt8 (y_X1_takeJurorsAct h0_reader_length u_678 u_679 u_680 h0_reader_mostBytes h0_reader_behind h0_reader_at u_681 h0_reader_number F_h0_reader_bytes) fun (r_687 : Int32) (u_689 : Int32) (u_690 : Int32) (u_691 : Int64) (u_692 : Int32) (u_693 : Int32) (u_694 : Int32) (u_695 : Int32) =>
    if (r_687 : Int32) = (-1) then (
     lt1 (y_X6_isBroken u_689) fun (r_719 : Int32) =>
     if (r_719 : Int32) = 0 then (
      (0, 0, 0, 0, 0, 0, 0, 0)
     ) else (
      (h0_lines, u_689, u_690, u_691, u_692, u_693, u_694, u_695)
     )
    ) else (
     lt1 (y_X6_isBroken u_689) fun (r_730 : Int32) =>
     if (r_730 : Int32) = 0 then (
      (0, 0, 0, 0, 0, 0, 0, 0)
     ) else (
      (h0_lines, u_689, u_690, u_691, u_692, u_693, u_694, u_695)
     )
    )
   ) else (
    if (r_665 : Int32) = (-1) then (
     lt4 (y_X6_fail 3 h0_reader_faultKind h0_reader_faultAt h0_reader_letters h0_reader_at h0_reader_kind) fun (u_890 : Int32) (u_891 : Int32) (u_892 : Int64) (u_893 : Int32) =>
     lt8 (y_X1_takeJurorsAct h0_reader_length u_890 u_891 u_892 h0_reader_mostBytes h0_reader_behind h0_reader_at u_893 h0_reader_number F_h0_reader_bytes) fun (r_899 : Int32) (u_901 : Int32) (u_902 : Int32) (u_903 : Int64) (u_904 : Int32) (u_905 : Int32) (u_906 : Int32) (u_907 : Int32) =>
     if (r_899 : Int32) = (-1) then (
      lt1 (y_X6_isBroken u_901) fun (r_931 : Int32) =>
      if (r_931 : Int32) = 0 then (
       (0, 0, 0, 0, 0, 0, 0, 0)
      ) else (
       (h0_lines, u_901, u_902, u_903, u_904, u_905, u_906, u_907)
      )
     ) else (
      lt1 (y_X6_isBroken u_901) fun (r_942 : Int32) =>
      if (r_942 : Int32) = 0 then (
       (0, 0, 0, 0, 0, 0, 0, 0)
      ) else (
       (h0_lines, u_901, u_902, u_903, u_904, u_905, u_906, u_907)
      )
     )
    ) else (
     if (h0_lines : Int32) < 40 then (
      lt5 (y_X6_advance h0_reader_length h0_reader_faultKind h0_reader_letters h0_reader_mostBytes h0_reader_behind h0_reader_at h0_reader_kind h0_reader_number F_h0_reader_bytes) fun (u_745 : Int64) (u_746 : Int32) (u_747 : Int32) (u_748 : Int32) (u_749 : Int32) =>
      lt8 (y_X1_takeJurorsAct h0_reader_length h0_reader_faultKind h0_reader_faultAt u_745 h0_reader_mostBytes u_746 u_747 u_748 u_749 F_h0_reader_bytes) fun (r_753 : Int32) (u_755 : Int32) (u_756 : Int32) (u_757 : Int64) (u_758 : Int32) (u_759 : Int32) (u_760 : Int32) (u_761 : Int32) =>
      if (r_753 : Int32) = (-1) then (
       lt1 (y_X6_isBroken u_755) fun (r_785 : Int32) =>
       if (r_785 : Int32) = 0 then (
        (0, 0, 0, 0, 0, 0, 0, 0)
       ) else (
        (h0_lines, u_755, u_756, u_757, u_758, u_759, u_760, u_761)
       )
      ) else (
       lt7 (y_X6_takeSign 59 h0_reader_length u_755 u_756 u_757 h0_reader_mostBytes u_758 u_759 u_760 u_761 F_h0_reader_bytes) fun (u_795 : Int32) (u_796 : Int32) (u_797 : Int64) (u_798 : Int32) (u_799 : Int32) (u_800 : Int32) (u_801 : Int32) =>
       lt1 (y_X6_isBroken u_795) fun (r_807 : Int32) =>
       if (r_807 : Int32) = 0 then (
        lt1 ((h0_lines : Int32) + 1) fun (x_817 : Int32) =>
        (x_817, u_795, u_796, u_797, u_798, u_799, u_800, u_801)
       ) else (
        (h0_lines, u_795, u_796, u_797, u_798, u_799, u_800, u_801)
       )
      )
     ) else (
      lt4 (y_X6_fail 4 h0_reader_faultKind h0_reader_faultAt h0_reader_letters h0_reader_at h0_reader_kind) fun (u_825 : Int32) (u_826 : Int32) (u_827 : Int64) (u_828 : Int32) =>
      lt8 (y_X1_takeJurorsAct h0_reader_length u_825 u_826 u_827 h0_reader_mostBytes h0_reader_behind h0_reader_at u_828 h0_reader_number F_h0_reader_bytes) fun (r_834 : Int32) (u_836 : Int32) (u_837 : Int32) (u_838 : Int64) (u_839 : Int32) (u_840 : Int32) (u_841 : Int32) (u_842 : Int32) =>
      if (r_834 : Int32) = (-1) then (
       lt1 (y_X6_isBroken u_836) fun (r_866 : Int32) =>
       if (r_866 : Int32) = 0 then (
        (0, 0, 0, 0, 0, 0, 0, 0)
       ) else (
        (h0_lines, u_836, u_837, u_838, u_839, u_840, u_841, u_842)
       )
      ) else (
       lt1 (y_X6_isBroken u_836) fun (r_877 : Int32) =>
       if (r_877 : Int32) = 0 then (
        (0, 0, 0, 0, 0, 0, 0, 0)
       ) else (
        (h0_lines, u_836, u_837, u_838, u_839, u_840, u_841, u_842)
       )
      )
     )
    )
   )
  ) else (
  if (r_652 : Int32) = 7 then (
   if (h0_lines : Int32) < 40 then (
    lt5 (y_X6_advance h0_reader_length h0_reader_faultKind h0_reader_letters h0_reader_mostBytes h0_reader_behind h0_reader_at h0_reader_kind h0_reader_number F_h0_reader_bytes) fun (u_955 : Int64) (u_956 : Int32) (u_957 : Int32) (u_958 : Int32) (u_959 : Int32) =>
    lt8 (y_X6_takeNumber 1 60 h0_reader_length h0_reader_faultKind h0_reader_faultAt u_955 h0_reader_mostBytes u_956 u_957 u_958 u_959 F_h0_reader_bytes) fun (r_963 : Int32) (u_965 : Int32) (u_966 : Int32) (u_967 : Int64) (u_968 : Int32) (u_969 : Int32) (u_970 : Int32) (u_971 : Int32) =>
    lt7 (y_X6_takeSign 59 h0_reader_length u_965 u_966 u_967 h0_reader_mostBytes u_968 u_969 u_970 u_971 F_h0_reader_bytes) fun (u_979 : Int32) (u_980 : Int32) (u_981 : Int64) (u_982 : Int32) (u_983 : Int32) (u_984 : Int32) (u_985 : Int32) =>
    lt1 (y_X6_isBroken u_979) fun (r_991 : Int32) =>
    if (r_991 : Int32) = 0 then (
     lt1 ((h0_lines : Int32) + 1) fun (x_1001 : Int32) =>
     (x_1001, u_979, u_980, u_981, u_982, u_983, u_984, u_985)
    ) else (
     (h0_lines, u_979, u_980, u_981, u_982, u_983, u_984, u_985)
    )
   ) else (
    lt4 (y_X6_fail 4 h0_reader_faultKind h0_reader_faultAt h0_reader_letters h0_reader_at h0_reader_kind) fun (u_1009 : Int32) (u_1010 : Int32) (u_1011 : Int64) (u_1012 : Int32) =>
    lt1 (y_X6_takeNumber_br 1 60 u_1012 h0_reader_number) fun (r_1018 : Int32) =>
    lt1 (y_X6_isBroken u_1009) fun (r_1023 : Int32) =>
    if (r_1023 : Int32) = 0 then (
     (0, 0, 0, 0, 0, 0, 0, 0)
    ) else (
     (h0_lines, u_1009, u_1010, u_1011, h0_reader_behind, h0_reader_at, u_1012, h0_reader_number)
    )
   )
  ) else (
  if (r_652 : Int32) = 6 then (
   if (h0_lines : Int32) < 40 then (
    lt5 (y_X6_advance h0_reader_length h0_reader_faultKind h0_reader_letters h0_reader_mostBytes h0_reader_behind h0_reader_at h0_reader_kind h0_reader_number F_h0_reader_bytes) fun (u_1036 : Int64) (u_1037 : Int32) (u_1038 : Int32) (u_1039 : Int32) (u_1040 : Int32) =>
    lt1 (y_X5_caseNamed u_1036 r1_cases F_r1_caseName) fun (r_1044 : Int32) =>
    lt8 (y_X6_takeFound r_1044 h0_reader_length h0_reader_faultKind h0_reader_faultAt u_1036 h0_reader_mostBytes u_1037 u_1038 u_1039 u_1040 F_h0_reader_bytes) fun (r_1048 : Int32) (u_1050 : Int32) (u_1051 : Int32) (u_1052 : Int64) (u_1053 : Int32) (u_1054 : Int32) (u_1055 : Int32) (u_1056 : Int32) =>
    if (r_1048 : Int32) = (-1) then (
     lt1 (y_X6_isBroken u_1050) fun (r_1084 : Int32) =>
     if (r_1084 : Int32) = 0 then (
      (0, 0, 0, 0, 0, 0, 0, 0)
     ) else (
      (h0_lines, u_1050, u_1051, u_1052, u_1053, u_1054, u_1055, u_1056)
     )
    ) else (
     lt7 (y_X6_takeSign 59 h0_reader_length u_1050 u_1051 u_1052 h0_reader_mostBytes u_1053 u_1054 u_1055 u_1056 F_h0_reader_bytes) fun (u_1095 : Int32) (u_1096 : Int32) (u_1097 : Int64) (u_1098 : Int32) (u_1099 : Int32) (u_1100 : Int32) (u_1101 : Int32) =>
     lt1 (y_X6_isBroken u_1095) fun (r_1107 : Int32) =>
     if (r_1107 : Int32) = 0 then (
      lt1 ((h0_lines : Int32) + 1) fun (x_1117 : Int32) =>
      (x_1117, u_1095, u_1096, u_1097, u_1098, u_1099, u_1100, u_1101)
     ) else (
      (h0_lines, u_1095, u_1096, u_1097, u_1098, u_1099, u_1100, u_1101)
     )
    )
   ) else (
    lt4 (y_X6_fail 4 h0_reader_faultKind h0_reader_faultAt h0_reader_letters h0_reader_at h0_reader_kind) fun (u_1125 : Int32) (u_1126 : Int32) (u_1127 : Int64) (u_1128 : Int32) =>
    lt1 (y_X5_caseNamed u_1127 r1_cases F_r1_caseName) fun (r_1134 : Int32) =>
    lt1 (y_X6_takeFound_br r_1134 u_1127 u_1128) fun (r_1138 : Int32) =>
    if (r_1138 : Int32) = (-1) then (
     lt1 (y_X6_isBroken u_1125) fun (r_1150 : Int32) =>
     if (r_1150 : Int32) = 0 then (
      (0, 0, 0, 0, 0, 0, 0, 0)
     ) else (
      (h0_lines, u_1125, u_1126, u_1127, h0_reader_behind, h0_reader_at, u_1128, h0_reader_number)
     )
    ) else (
     lt1 (y_X6_isBroken u_1125) fun (r_1161 : Int32) =>
     if (r_1161 : Int32) = 0 then (
      (0, 0, 0, 0, 0, 0, 0, 0)
     ) else (
      (h0_lines, u_1125, u_1126, u_1127, h0_reader_behind, h0_reader_at, u_1128, h0_reader_number)
     )
    )
   )
  ) else (
   if (h0_lines : Int32) < 40 then (
    lt5 (y_X6_advance h0_reader_length h0_reader_faultKind h0_reader_letters h0_reader_mostBytes h0_reader_behind h0_reader_at h0_reader_kind h0_reader_number F_h0_reader_bytes) fun (u_1174 : Int64) (u_1175 : Int32) (u_1176 : Int32) (u_1177 : Int32) (u_1178 : Int32) =>
    lt1 (y_X5_caseNamed u_1174 r1_cases F_r1_caseName) fun (r_1182 : Int32) =>
    lt8 (y_X6_takeFound r_1182 h0_reader_length h0_reader_faultKind h0_reader_faultAt u_1174 h0_reader_mostBytes u_1175 u_1176 u_1177 u_1178 F_h0_reader_bytes) fun (r_1186 : Int32) (u_1188 : Int32) (u_1189 : Int32) (u_1190 : Int64) (u_1191 : Int32) (u_1192 : Int32) (u_1193 : Int32) (u_1194 : Int32) =>
    if (r_1186 : Int32) = (-1) then (
     lt1 (y_X6_isBroken u_1188) fun (r_1222 : Int32) =>
     if (r_1222 : Int32) = 0 then (
      (0, 0, 0, 0, 0, 0, 0, 0)
     ) else (
      (h0_lines, u_1188, u_1189, u_1190, u_1191, u_1192, u_1193, u_1194)
     )
    ) else (
     lt7 (y_X6_takeSign 59 h0_reader_length u_1188 u_1189 u_1190 h0_reader_mostBytes u_1191 u_1192 u_1193 u_1194 F_h0_reader_bytes) fun (u_1233 : Int32) (u_1234 : Int32) (u_1235 : Int64) (u_1236 : Int32) (u_1237 : Int32) (u_1238 : Int32) (u_1239 : Int32) =>
     lt1 (y_X6_isBroken u_1233) fun (r_1245 : Int32) =>
     if (r_1245 : Int32) = 0 then (
      lt1 ((h0_lines : Int32) + 1) fun (x_1255 : Int32) =>
      (x_1255, u_1233, u_1234, u_1235, u_1236, u_1237, u_1238, u_1239)
     ) else (
      (h0_lines, u_1233, u_1234, u_1235, u_1236, u_1237, u_1238, u_1239)
     )
    )
   ) else (
    lt4 (y_X6_fail 4 h0_reader_faultKind h0_reader_faultAt h0_reader_letters h0_reader_at h0_reader_kind) fun (u_1263 : Int32) (u_1264 : Int32) (u_1265 : Int64) (u_1266 : Int32) =>
    lt1 (y_X5_caseNamed u_1265 r1_cases F_r1_caseName) fun (r_1272 : Int32) =>
    lt1 (y_X6_takeFound_br r_1272 u_1265 u_1266) fun (r_1276 : Int32) =>
    if (r_1276 : Int32) = (-1) then (
     lt1 (y_X6_isBroken u_1263) fun (r_1288 : Int32) =>
     if (r_1288 : Int32) = 0 then (
      (0, 0, 0, 0, 0, 0, 0, 0)
     ) else (
      (h0_lines, u_1263, u_1264, u_1265, h0_reader_behind, h0_reader_at, u_1266, h0_reader_number)
     )
    ) else (
     lt1 (y_X6_isBroken u_1263) fun (r_1299 : Int32) =>
     if (r_1299 : Int32) = 0 then (
      (0, 0, 0, 0, 0, 0, 0, 0)
     ) else (
      (h0_lines, u_1263, u_1264, u_1265, h0_reader_behind, h0_reader_at, u_1266, h0_reader_number)
     )
    )
   )
  )))
theorem y_X1_readLine_s (h0_lines : Int32) (h0_reader_length : Int32) (h0_reader_faultKind : Int32) (h0_reader_faultAt : Int32) (h0_reader_letters : Int64) (h0_reader_mostBytes : Int32) (h0_reader_behind : Int32) (h0_reader_at : Int32) (h0_reader_kind : Int32) (h0_reader_number : Int32) (r1_jurors : Int32) (r1_cases : Int32) (F_r1_jurorName : Nat → Int64) (F_h0_reader_bytes : Nat → Int32) (F_r1_caseName : Nat → Int64)  : y_X1_readLine h0_lines h0_reader_length h0_reader_faultKind h0_reader_faultAt h0_reader_letters h0_reader_mostBytes h0_reader_behind h0_reader_at h0_reader_kind h0_reader_number r1_jurors r1_cases F_r1_jurorName F_h0_reader_bytes F_r1_caseName = (
  lt1 (y_X1_firstAct h0_reader_letters h0_reader_kind) fun (r_652 : Int32) =>
  if (r_652 : Int32) = (-1) then (
   lt1 (y_X5_jurorNamed h0_reader_letters r1_jurors F_r1_jurorName) fun (r_665 : Int32) =>
   lt1 (y_X6_seesName h0_reader_letters h0_reader_kind) fun (r_669 : Int32) =>
   if (r_669 : Int32) = 0 then (
    lt4 (y_X6_fail 1 h0_reader_faultKind h0_reader_faultAt h0_reader_letters h0_reader_at h0_reader_kind) fun (u_678 : Int32) (u_679 : Int32) (u_680 : Int64) (u_681 : Int32) =>
    lt8 (y_X1_takeJurorsAct h0_reader_length u_678 u_679 u_680 h0_reader_mostBytes h0_reader_behind h0_reader_at u_681 h0_reader_number F_h0_reader_bytes) fun (r_687 : Int32) (u_689 : Int32) (u_690 : Int32) (u_691 : Int64) (u_692 : Int32) (u_693 : Int32) (u_694 : Int32) (u_695 : Int32) =>
    if (r_687 : Int32) = (-1) then (
     lt1 (y_X6_isBroken u_689) fun (r_719 : Int32) =>
     if (r_719 : Int32) = 0 then (
      (0, 0, 0, 0, 0, 0, 0, 0)
     ) else (
      (h0_lines, u_689, u_690, u_691, u_692, u_693, u_694, u_695)
     )
    ) else (
     lt1 (y_X6_isBroken u_689) fun (r_730 : Int32) =>
     if (r_730 : Int32) = 0 then (
      (0, 0, 0, 0, 0, 0, 0, 0)
     ) else (
      (h0_lines, u_689, u_690, u_691, u_692, u_693, u_694, u_695)
     )
    )
   ) else (
    if (r_665 : Int32) = (-1) then (
     lt4 (y_X6_fail 3 h0_reader_faultKind h0_reader_faultAt h0_reader_letters h0_reader_at h0_reader_kind) fun (u_890 : Int32) (u_891 : Int32) (u_892 : Int64) (u_893 : Int32) =>
     lt8 (y_X1_takeJurorsAct h0_reader_length u_890 u_891 u_892 h0_reader_mostBytes h0_reader_behind h0_reader_at u_893 h0_reader_number F_h0_reader_bytes) fun (r_899 : Int32) (u_901 : Int32) (u_902 : Int32) (u_903 : Int64) (u_904 : Int32) (u_905 : Int32) (u_906 : Int32) (u_907 : Int32) =>
     if (r_899 : Int32) = (-1) then (
      lt1 (y_X6_isBroken u_901) fun (r_931 : Int32) =>
      if (r_931 : Int32) = 0 then (
       (0, 0, 0, 0, 0, 0, 0, 0)
      ) else (
       (h0_lines, u_901, u_902, u_903, u_904, u_905, u_906, u_907)
      )
     ) else (
      lt1 (y_X6_isBroken u_901) fun (r_942 : Int32) =>
      if (r_942 : Int32) = 0 then (
       (0, 0, 0, 0, 0, 0, 0, 0)
      ) else (
       (h0_lines, u_901, u_902, u_903, u_904, u_905, u_906, u_907)
      )
     )
    ) else (
     if (h0_lines : Int32) < 40 then (
      lt5 (y_X6_advance h0_reader_length h0_reader_faultKind h0_reader_letters h0_reader_mostBytes h0_reader_behind h0_reader_at h0_reader_kind h0_reader_number F_h0_reader_bytes) fun (u_745 : Int64) (u_746 : Int32) (u_747 : Int32) (u_748 : Int32) (u_749 : Int32) =>
      lt8 (y_X1_takeJurorsAct h0_reader_length h0_reader_faultKind h0_reader_faultAt u_745 h0_reader_mostBytes u_746 u_747 u_748 u_749 F_h0_reader_bytes) fun (r_753 : Int32) (u_755 : Int32) (u_756 : Int32) (u_757 : Int64) (u_758 : Int32) (u_759 : Int32) (u_760 : Int32) (u_761 : Int32) =>
      if (r_753 : Int32) = (-1) then (
       lt1 (y_X6_isBroken u_755) fun (r_785 : Int32) =>
       if (r_785 : Int32) = 0 then (
        (0, 0, 0, 0, 0, 0, 0, 0)
       ) else (
        (h0_lines, u_755, u_756, u_757, u_758, u_759, u_760, u_761)
       )
      ) else (
       lt7 (y_X6_takeSign 59 h0_reader_length u_755 u_756 u_757 h0_reader_mostBytes u_758 u_759 u_760 u_761 F_h0_reader_bytes) fun (u_795 : Int32) (u_796 : Int32) (u_797 : Int64) (u_798 : Int32) (u_799 : Int32) (u_800 : Int32) (u_801 : Int32) =>
       lt1 (y_X6_isBroken u_795) fun (r_807 : Int32) =>
       if (r_807 : Int32) = 0 then (
        lt1 ((h0_lines : Int32) + 1) fun (x_817 : Int32) =>
        (x_817, u_795, u_796, u_797, u_798, u_799, u_800, u_801)
       ) else (
        (h0_lines, u_795, u_796, u_797, u_798, u_799, u_800, u_801)
       )
      )
     ) else (
      lt4 (y_X6_fail 4 h0_reader_faultKind h0_reader_faultAt h0_reader_letters h0_reader_at h0_reader_kind) fun (u_825 : Int32) (u_826 : Int32) (u_827 : Int64) (u_828 : Int32) =>
      lt8 (y_X1_takeJurorsAct h0_reader_length u_825 u_826 u_827 h0_reader_mostBytes h0_reader_behind h0_reader_at u_828 h0_reader_number F_h0_reader_bytes) fun (r_834 : Int32) (u_836 : Int32) (u_837 : Int32) (u_838 : Int64) (u_839 : Int32) (u_840 : Int32) (u_841 : Int32) (u_842 : Int32) =>
      if (r_834 : Int32) = (-1) then (
       lt1 (y_X6_isBroken u_836) fun (r_866 : Int32) =>
       if (r_866 : Int32) = 0 then (
        (0, 0, 0, 0, 0, 0, 0, 0)
       ) else (
        (h0_lines, u_836, u_837, u_838, u_839, u_840, u_841, u_842)
       )
      ) else (
       lt1 (y_X6_isBroken u_836) fun (r_877 : Int32) =>
       if (r_877 : Int32) = 0 then (
        (0, 0, 0, 0, 0, 0, 0, 0)
       ) else (
        (h0_lines, u_836, u_837, u_838, u_839, u_840, u_841, u_842)
       )
      )
     )
    )
   )
  ) else (
  if (r_652 : Int32) = 7 then (
   if (h0_lines : Int32) < 40 then (
    lt5 (y_X6_advance h0_reader_length h0_reader_faultKind h0_reader_letters h0_reader_mostBytes h0_reader_behind h0_reader_at h0_reader_kind h0_reader_number F_h0_reader_bytes) fun (u_955 : Int64) (u_956 : Int32) (u_957 : Int32) (u_958 : Int32) (u_959 : Int32) =>
    lt8 (y_X6_takeNumber 1 60 h0_reader_length h0_reader_faultKind h0_reader_faultAt u_955 h0_reader_mostBytes u_956 u_957 u_958 u_959 F_h0_reader_bytes) fun (r_963 : Int32) (u_965 : Int32) (u_966 : Int32) (u_967 : Int64) (u_968 : Int32) (u_969 : Int32) (u_970 : Int32) (u_971 : Int32) =>
    lt7 (y_X6_takeSign 59 h0_reader_length u_965 u_966 u_967 h0_reader_mostBytes u_968 u_969 u_970 u_971 F_h0_reader_bytes) fun (u_979 : Int32) (u_980 : Int32) (u_981 : Int64) (u_982 : Int32) (u_983 : Int32) (u_984 : Int32) (u_985 : Int32) =>
    lt1 (y_X6_isBroken u_979) fun (r_991 : Int32) =>
    if (r_991 : Int32) = 0 then (
     lt1 ((h0_lines : Int32) + 1) fun (x_1001 : Int32) =>
     (x_1001, u_979, u_980, u_981, u_982, u_983, u_984, u_985)
    ) else (
     (h0_lines, u_979, u_980, u_981, u_982, u_983, u_984, u_985)
    )
   ) else (
    lt4 (y_X6_fail 4 h0_reader_faultKind h0_reader_faultAt h0_reader_letters h0_reader_at h0_reader_kind) fun (u_1009 : Int32) (u_1010 : Int32) (u_1011 : Int64) (u_1012 : Int32) =>
    lt1 (y_X6_takeNumber_br 1 60 u_1012 h0_reader_number) fun (r_1018 : Int32) =>
    lt1 (y_X6_isBroken u_1009) fun (r_1023 : Int32) =>
    if (r_1023 : Int32) = 0 then (
     (0, 0, 0, 0, 0, 0, 0, 0)
    ) else (
     (h0_lines, u_1009, u_1010, u_1011, h0_reader_behind, h0_reader_at, u_1012, h0_reader_number)
    )
   )
  ) else (
  if (r_652 : Int32) = 6 then (
   if (h0_lines : Int32) < 40 then (
    lt5 (y_X6_advance h0_reader_length h0_reader_faultKind h0_reader_letters h0_reader_mostBytes h0_reader_behind h0_reader_at h0_reader_kind h0_reader_number F_h0_reader_bytes) fun (u_1036 : Int64) (u_1037 : Int32) (u_1038 : Int32) (u_1039 : Int32) (u_1040 : Int32) =>
    lt1 (y_X5_caseNamed u_1036 r1_cases F_r1_caseName) fun (r_1044 : Int32) =>
    lt8 (y_X6_takeFound r_1044 h0_reader_length h0_reader_faultKind h0_reader_faultAt u_1036 h0_reader_mostBytes u_1037 u_1038 u_1039 u_1040 F_h0_reader_bytes) fun (r_1048 : Int32) (u_1050 : Int32) (u_1051 : Int32) (u_1052 : Int64) (u_1053 : Int32) (u_1054 : Int32) (u_1055 : Int32) (u_1056 : Int32) =>
    if (r_1048 : Int32) = (-1) then (
     lt1 (y_X6_isBroken u_1050) fun (r_1084 : Int32) =>
     if (r_1084 : Int32) = 0 then (
      (0, 0, 0, 0, 0, 0, 0, 0)
     ) else (
      (h0_lines, u_1050, u_1051, u_1052, u_1053, u_1054, u_1055, u_1056)
     )
    ) else (
     lt7 (y_X6_takeSign 59 h0_reader_length u_1050 u_1051 u_1052 h0_reader_mostBytes u_1053 u_1054 u_1055 u_1056 F_h0_reader_bytes) fun (u_1095 : Int32) (u_1096 : Int32) (u_1097 : Int64) (u_1098 : Int32) (u_1099 : Int32) (u_1100 : Int32) (u_1101 : Int32) =>
     lt1 (y_X6_isBroken u_1095) fun (r_1107 : Int32) =>
     if (r_1107 : Int32) = 0 then (
      lt1 ((h0_lines : Int32) + 1) fun (x_1117 : Int32) =>
      (x_1117, u_1095, u_1096, u_1097, u_1098, u_1099, u_1100, u_1101)
     ) else (
      (h0_lines, u_1095, u_1096, u_1097, u_1098, u_1099, u_1100, u_1101)
     )
    )
   ) else (
    lt4 (y_X6_fail 4 h0_reader_faultKind h0_reader_faultAt h0_reader_letters h0_reader_at h0_reader_kind) fun (u_1125 : Int32) (u_1126 : Int32) (u_1127 : Int64) (u_1128 : Int32) =>
    lt1 (y_X5_caseNamed u_1127 r1_cases F_r1_caseName) fun (r_1134 : Int32) =>
    lt1 (y_X6_takeFound_br r_1134 u_1127 u_1128) fun (r_1138 : Int32) =>
    if (r_1138 : Int32) = (-1) then (
     lt1 (y_X6_isBroken u_1125) fun (r_1150 : Int32) =>
     if (r_1150 : Int32) = 0 then (
      (0, 0, 0, 0, 0, 0, 0, 0)
     ) else (
      (h0_lines, u_1125, u_1126, u_1127, h0_reader_behind, h0_reader_at, u_1128, h0_reader_number)
     )
    ) else (
     lt1 (y_X6_isBroken u_1125) fun (r_1161 : Int32) =>
     if (r_1161 : Int32) = 0 then (
      (0, 0, 0, 0, 0, 0, 0, 0)
     ) else (
      (h0_lines, u_1125, u_1126, u_1127, h0_reader_behind, h0_reader_at, u_1128, h0_reader_number)
     )
    )
   )
  ) else (
   if (h0_lines : Int32) < 40 then (
    lt5 (y_X6_advance h0_reader_length h0_reader_faultKind h0_reader_letters h0_reader_mostBytes h0_reader_behind h0_reader_at h0_reader_kind h0_reader_number F_h0_reader_bytes) fun (u_1174 : Int64) (u_1175 : Int32) (u_1176 : Int32) (u_1177 : Int32) (u_1178 : Int32) =>
    lt1 (y_X5_caseNamed u_1174 r1_cases F_r1_caseName) fun (r_1182 : Int32) =>
    lt8 (y_X6_takeFound r_1182 h0_reader_length h0_reader_faultKind h0_reader_faultAt u_1174 h0_reader_mostBytes u_1175 u_1176 u_1177 u_1178 F_h0_reader_bytes) fun (r_1186 : Int32) (u_1188 : Int32) (u_1189 : Int32) (u_1190 : Int64) (u_1191 : Int32) (u_1192 : Int32) (u_1193 : Int32) (u_1194 : Int32) =>
    if (r_1186 : Int32) = (-1) then (
     lt1 (y_X6_isBroken u_1188) fun (r_1222 : Int32) =>
     if (r_1222 : Int32) = 0 then (
      (0, 0, 0, 0, 0, 0, 0, 0)
     ) else (
      (h0_lines, u_1188, u_1189, u_1190, u_1191, u_1192, u_1193, u_1194)
     )
    ) else (
     lt7 (y_X6_takeSign 59 h0_reader_length u_1188 u_1189 u_1190 h0_reader_mostBytes u_1191 u_1192 u_1193 u_1194 F_h0_reader_bytes) fun (u_1233 : Int32) (u_1234 : Int32) (u_1235 : Int64) (u_1236 : Int32) (u_1237 : Int32) (u_1238 : Int32) (u_1239 : Int32) =>
     lt1 (y_X6_isBroken u_1233) fun (r_1245 : Int32) =>
     if (r_1245 : Int32) = 0 then (
      lt1 ((h0_lines : Int32) + 1) fun (x_1255 : Int32) =>
      (x_1255, u_1233, u_1234, u_1235, u_1236, u_1237, u_1238, u_1239)
     ) else (
      (h0_lines, u_1233, u_1234, u_1235, u_1236, u_1237, u_1238, u_1239)
     )
    )
   ) else (
    lt4 (y_X6_fail 4 h0_reader_faultKind h0_reader_faultAt h0_reader_letters h0_reader_at h0_reader_kind) fun (u_1263 : Int32) (u_1264 : Int32) (u_1265 : Int64) (u_1266 : Int32) =>
    lt1 (y_X5_caseNamed u_1265 r1_cases F_r1_caseName) fun (r_1272 : Int32) =>
    lt1 (y_X6_takeFound_br r_1272 u_1265 u_1266) fun (r_1276 : Int32) =>
    if (r_1276 : Int32) = (-1) then (
     lt1 (y_X6_isBroken u_1263) fun (r_1288 : Int32) =>
     if (r_1288 : Int32) = 0 then (
      (0, 0, 0, 0, 0, 0, 0, 0)
     ) else (
      (h0_lines, u_1263, u_1264, u_1265, h0_reader_behind, h0_reader_at, u_1266, h0_reader_number)
     )
    ) else (
     lt1 (y_X6_isBroken u_1263) fun (r_1299 : Int32) =>
     if (r_1299 : Int32) = 0 then (
      (0, 0, 0, 0, 0, 0, 0, 0)
     ) else (
      (h0_lines, u_1263, u_1264, u_1265, h0_reader_behind, h0_reader_at, u_1266, h0_reader_number)
     )
    )
   )
  )))) := rfl
def y_X1_readLines_17 (h0_reader_length : Int32) (F_h0_reader_bytes : Nat → Int32) (r1_jurors : Int32) (r1_cases : Int32) (F_r1_jurorName : Nat → Int64) (F_r1_caseName : Nat → Int64) : Nat → Int32 → Int32 → Int32 → Int32 → Int64 → Int32 → Int32 → Int32 → Int32 → (Int32 × Int32 × Int32 × Int64 × Int32 × Int32 × Int32 × Int32)
 | 0, _, _, _, _, _, _, _, _, _ => (0, 0, 0, 0, 0, 0, 0, 0)
 | n17 + 1, y17_0, y17_1, y17_2, y17_3, y17_4, y17_5, y17_6, y17_7, y17_8 =>
  if (40 : Int32) < y17_0 then (
   (y17_1, y17_2, y17_3, y17_4, y17_5, y17_6, y17_7, y17_8)
  ) else (
   lt1 (y_X6_goesOn y17_2 y17_7) fun (r_403 : Int32) =>
   if (r_403 : Int32) = 0 then (
    (y17_1, y17_2, y17_3, y17_4, y17_5, y17_6, y17_7, y17_8)
   ) else (
    lt8 (y_X1_readLine y17_1 h0_reader_length y17_2 y17_3 y17_4 400 y17_5 y17_6 y17_7 y17_8 r1_jurors r1_cases F_r1_jurorName F_h0_reader_bytes F_r1_caseName) fun (u_412 : Int32) (u_413 : Int32) (u_414 : Int32) (u_415 : Int64) (u_416 : Int32) (u_417 : Int32) (u_418 : Int32) (u_419 : Int32) =>
    lt1 (y17_0 + 1) fun (x_431 : Int32) =>
    y_X1_readLines_17 h0_reader_length F_h0_reader_bytes r1_jurors r1_cases F_r1_jurorName F_r1_caseName n17 x_431 u_412 u_413 u_414 u_415 u_416 u_417 u_418 u_419
   )
  )
theorem y_X1_readLines_17_s (h0_reader_length : Int32) (F_h0_reader_bytes : Nat → Int32) (r1_jurors : Int32) (r1_cases : Int32) (F_r1_jurorName : Nat → Int64) (F_r1_caseName : Nat → Int64) (n17 : Nat) (y17_0 : Int32) (y17_1 : Int32) (y17_2 : Int32) (y17_3 : Int32) (y17_4 : Int64) (y17_5 : Int32) (y17_6 : Int32) (y17_7 : Int32) (y17_8 : Int32) : y_X1_readLines_17 h0_reader_length F_h0_reader_bytes r1_jurors r1_cases F_r1_jurorName F_r1_caseName (n17 + 1) y17_0 y17_1 y17_2 y17_3 y17_4 y17_5 y17_6 y17_7 y17_8 = (
  if (40 : Int32) < y17_0 then (
   (y17_1, y17_2, y17_3, y17_4, y17_5, y17_6, y17_7, y17_8)
  ) else (
   lt1 (y_X6_goesOn y17_2 y17_7) fun (r_403 : Int32) =>
   if (r_403 : Int32) = 0 then (
    (y17_1, y17_2, y17_3, y17_4, y17_5, y17_6, y17_7, y17_8)
   ) else (
    lt8 (y_X1_readLine y17_1 h0_reader_length y17_2 y17_3 y17_4 400 y17_5 y17_6 y17_7 y17_8 r1_jurors r1_cases F_r1_jurorName F_h0_reader_bytes F_r1_caseName) fun (u_412 : Int32) (u_413 : Int32) (u_414 : Int32) (u_415 : Int64) (u_416 : Int32) (u_417 : Int32) (u_418 : Int32) (u_419 : Int32) =>
    lt1 (y17_0 + 1) fun (x_431 : Int32) =>
    y_X1_readLines_17 h0_reader_length F_h0_reader_bytes r1_jurors r1_cases F_r1_jurorName F_r1_caseName n17 x_431 u_412 u_413 u_414 u_415 u_416 u_417 u_418 u_419
   )
  )) := rfl
def y_X1_readLines (h0_reader_length : Int32) (h0_reader_letters : Int64) (h0_reader_at : Int32) (h0_reader_kind : Int32) (h0_reader_number : Int32) (F_h0_reader_bytes : Nat → Int32) (r1_jurors : Int32) (r1_cases : Int32) (F_r1_jurorName : Nat → Int64) (F_r1_caseName : Nat → Int64)  : Int32 × Int32 × Int32 × Int64 × Int32 × Int32 × Int32 × Int32 :=
  lt5 (y_X6_begin 400 h0_reader_length h0_reader_letters h0_reader_at h0_reader_kind h0_reader_number F_h0_reader_bytes) fun (u_436 : Int64) (u_437 : Int32) (u_438 : Int32) (u_439 : Int32) (u_440 : Int32) =>
  y_X1_readLines_17 h0_reader_length F_h0_reader_bytes r1_jurors r1_cases F_r1_jurorName F_r1_caseName 42 0 0 0 0 u_436 u_437 u_438 u_439 u_440
theorem y_X1_readLines_s (h0_reader_length : Int32) (h0_reader_letters : Int64) (h0_reader_at : Int32) (h0_reader_kind : Int32) (h0_reader_number : Int32) (F_h0_reader_bytes : Nat → Int32) (r1_jurors : Int32) (r1_cases : Int32) (F_r1_jurorName : Nat → Int64) (F_r1_caseName : Nat → Int64)  : y_X1_readLines h0_reader_length h0_reader_letters h0_reader_at h0_reader_kind h0_reader_number F_h0_reader_bytes r1_jurors r1_cases F_r1_jurorName F_r1_caseName = (
  lt5 (y_X6_begin 400 h0_reader_length h0_reader_letters h0_reader_at h0_reader_kind h0_reader_number F_h0_reader_bytes) fun (u_436 : Int64) (u_437 : Int32) (u_438 : Int32) (u_439 : Int32) (u_440 : Int32) =>
  y_X1_readLines_17 h0_reader_length F_h0_reader_bytes r1_jurors r1_cases F_r1_jurorName F_r1_caseName 42 0 0 0 0 u_436 u_437 u_438 u_439 u_440) := rfl
def y_X12_readDoes_23 (h0_size : Int32) (h0_limit : Int32) (h0_to : Int32) (h0_from : Int32) (h0_kind : Int32) (h0_number : Int32) (h0_sign : Int32) (h0_fault : Int32) (h0_place : Int32) (h0_word : Int64) (F_h0_tape : Nat → Int32) (y23_0 : Int32) : Int32 × Int32 × Int32 × Int32 × Int32 × Int32 × Int32 × Int32 × Int64 :=
  if (y23_0 : Int32) ≤ 11 then (
   lt6 (y_X12_go h0_size h0_limit h0_to h0_number h0_sign h0_word F_h0_tape) fun (u_103 : Int32) (u_104 : Int32) (u_105 : Int32) (u_106 : Int32) (u_107 : Int32) (u_108 : Int64) =>
   (1, u_103, u_104, u_105, u_106, u_107, h0_fault, h0_place, u_108)
  ) else (
   lt2 (y_X12_bad 1 h0_kind) fun (r_118 : Int32) (u_120 : Int32) =>
   (0, h0_to, h0_from, h0_kind, h0_number, h0_sign, u_120, h0_from, h0_word)
  )
theorem y_X12_readDoes_23_s (h0_size : Int32) (h0_limit : Int32) (h0_to : Int32) (h0_from : Int32) (h0_kind : Int32) (h0_number : Int32) (h0_sign : Int32) (h0_fault : Int32) (h0_place : Int32) (h0_word : Int64) (F_h0_tape : Nat → Int32) (y23_0 : Int32) : y_X12_readDoes_23 h0_size h0_limit h0_to h0_from h0_kind h0_number h0_sign h0_fault h0_place h0_word F_h0_tape y23_0 = (
  if (y23_0 : Int32) ≤ 11 then (
   lt6 (y_X12_go h0_size h0_limit h0_to h0_number h0_sign h0_word F_h0_tape) fun (u_103 : Int32) (u_104 : Int32) (u_105 : Int32) (u_106 : Int32) (u_107 : Int32) (u_108 : Int64) =>
   (1, u_103, u_104, u_105, u_106, u_107, h0_fault, h0_place, u_108)
  ) else (
   lt2 (y_X12_bad 1 h0_kind) fun (r_118 : Int32) (u_120 : Int32) =>
   (0, h0_to, h0_from, h0_kind, h0_number, h0_sign, u_120, h0_from, h0_word)
  )) := rfl
def y_X12_readDoes_3 (h0_size : Int32) (h0_limit : Int32) (h0_to : Int32) (h0_from : Int32) (h0_kind : Int32) (h0_number : Int32) (h0_sign : Int32) (h0_fault : Int32) (h0_place : Int32) (h0_word : Int64) (F_h0_tape : Nat → Int32) : Nat → Int32 → (Int32 × Int32 × Int32 × Int32 × Int32 × Int32 × Int32 × Int32 × Int64)
 | 0, _ => (0, 0, 0, 0, 0, 0, 0, 0, 0)
 | n3 + 1, y3_0 =>
  if (11 : Int32) < y3_0 then (
   y_X12_readDoes_23 h0_size h0_limit h0_to h0_from h0_kind h0_number h0_sign h0_fault h0_place h0_word F_h0_tape y3_0
  ) else (
   lt1 (y_X12_isWord y3_0 h0_kind h0_word) fun (r_144 : Int32) =>
   if (r_144 : Int32) = 0 then (
    lt1 (y3_0 + 1) fun (x_151 : Int32) =>
    y_X12_readDoes_3 h0_size h0_limit h0_to h0_from h0_kind h0_number h0_sign h0_fault h0_place h0_word F_h0_tape n3 x_151
   ) else (
    y_X12_readDoes_23 h0_size h0_limit h0_to h0_from h0_kind h0_number h0_sign h0_fault h0_place h0_word F_h0_tape y3_0
   )
  )
theorem y_X12_readDoes_3_s (h0_size : Int32) (h0_limit : Int32) (h0_to : Int32) (h0_from : Int32) (h0_kind : Int32) (h0_number : Int32) (h0_sign : Int32) (h0_fault : Int32) (h0_place : Int32) (h0_word : Int64) (F_h0_tape : Nat → Int32) (n3 : Nat) (y3_0 : Int32) : y_X12_readDoes_3 h0_size h0_limit h0_to h0_from h0_kind h0_number h0_sign h0_fault h0_place h0_word F_h0_tape (n3 + 1) y3_0 = (
  if (11 : Int32) < y3_0 then (
   y_X12_readDoes_23 h0_size h0_limit h0_to h0_from h0_kind h0_number h0_sign h0_fault h0_place h0_word F_h0_tape y3_0
  ) else (
   lt1 (y_X12_isWord y3_0 h0_kind h0_word) fun (r_144 : Int32) =>
   if (r_144 : Int32) = 0 then (
    lt1 (y3_0 + 1) fun (x_151 : Int32) =>
    y_X12_readDoes_3 h0_size h0_limit h0_to h0_from h0_kind h0_number h0_sign h0_fault h0_place h0_word F_h0_tape n3 x_151
   ) else (
    y_X12_readDoes_23 h0_size h0_limit h0_to h0_from h0_kind h0_number h0_sign h0_fault h0_place h0_word F_h0_tape y3_0
   )
  )) := rfl
def y_X12_readDoes (h0_size : Int32) (h0_limit : Int32) (h0_to : Int32) (h0_from : Int32) (h0_kind : Int32) (h0_number : Int32) (h0_sign : Int32) (h0_fault : Int32) (h0_place : Int32) (h0_word : Int64) (F_h0_tape : Nat → Int32)  : Int32 × Int32 × Int32 × Int32 × Int32 × Int32 × Int32 × Int32 × Int64 :=
  y_X12_readDoes_3 h0_size h0_limit h0_to h0_from h0_kind h0_number h0_sign h0_fault h0_place h0_word F_h0_tape 6 7
theorem y_X12_readDoes_s (h0_size : Int32) (h0_limit : Int32) (h0_to : Int32) (h0_from : Int32) (h0_kind : Int32) (h0_number : Int32) (h0_sign : Int32) (h0_fault : Int32) (h0_place : Int32) (h0_word : Int64) (F_h0_tape : Nat → Int32)  : y_X12_readDoes h0_size h0_limit h0_to h0_from h0_kind h0_number h0_sign h0_fault h0_place h0_word F_h0_tape = (
  y_X12_readDoes_3 h0_size h0_limit h0_to h0_from h0_kind h0_number h0_sign h0_fault h0_place h0_word F_h0_tape 6 7) := rfl
def y_X12_readBookLine (h0_size : Int32) (h0_limit : Int32) (h0_to : Int32) (h0_from : Int32) (h0_kind : Int32) (h0_number : Int32) (h0_sign : Int32) (h0_fault : Int32) (h0_place : Int32) (h0_word : Int64) (h0_told : Int32) (h0_lineMany : Int32) (F_h0_now : Nat → Int32) (F_h0_name : Nat → Int64) (F_h0_tape : Nat → Int32)  : Int32 × Int32 × Int32 × Int32 × Int32 × Int32 × Int32 × Int32 × Int64 × Int32 :=
  lt1 (y_X12_isWord_12 h0_kind h0_word) fun (r_536 : Int32) =>
  if (r_536 : Int32) = 0 then (
   lt1 (y_X12_isWord_13 h0_kind h0_word) fun (r_543 : Int32) =>
   if (r_543 : Int32) = 0 then (
    lt1 (y_X12_isWord_14 h0_kind h0_word) fun (r_550 : Int32) =>
    if (r_550 : Int32) = 0 then (
     lt1 (y_X12_isName h0_kind h0_word) fun (r_557 : Int32) =>
     if (r_557 : Int32) = 0 then (
      lt2 (y_X12_bad 1 h0_kind) fun (r_564 : Int32) (u_566 : Int32) =>
      (0, h0_to, h0_from, h0_kind, h0_number, h0_sign, u_566, h0_from, h0_word, h0_told)
     ) else (
      lt1 (F_h0_now (0 : Int32).toNatClampNeg) fun (x_569 : Int32) =>
      lt1 (y_X12_findIn_0 x_569 h0_word F_h0_name) fun (r_571 : Int32) =>
      if (r_571 : Int32) = (-1) then (
       lt2 (y_X12_bad 3 h0_kind) fun (r_697 : Int32) (u_699 : Int32) =>
       (0, h0_to, h0_from, h0_kind, h0_number, h0_sign, u_699, h0_from, h0_word, h0_told)
      ) else (
       if (h0_lineMany : Int32) = 40 then (
        lt2 (y_X12_bad 4 h0_kind) fun (r_689 : Int32) (u_691 : Int32) =>
        (0, h0_to, h0_from, h0_kind, h0_number, h0_sign, u_691, h0_from, h0_word, h0_told)
       ) else (
        lt1 (y_X12_findIn_0 x_569 h0_word F_h0_name) fun (r_587 : Int32) =>
        lt6 (y_X12_go h0_size h0_limit h0_to h0_number h0_sign h0_word F_h0_tape) fun (u_595 : Int32) (u_596 : Int32) (u_597 : Int32) (u_598 : Int32) (u_599 : Int32) (u_600 : Int64) =>
        lt9 (y_X12_readDoes h0_size h0_limit u_595 u_596 u_597 u_598 u_599 h0_fault h0_place u_600 F_h0_tape) fun (r_608 : Int32) (u_610 : Int32) (u_611 : Int32) (u_612 : Int32) (u_613 : Int32) (u_614 : Int32) (u_615 : Int32) (u_616 : Int32) (u_617 : Int64) =>
        if (r_608 : Int32) = 1 then (
         lt9 (y_X12_readEnd h0_size h0_limit u_610 u_611 u_612 u_613 u_614 u_615 u_616 u_617 F_h0_tape) fun (r_647 : Int32) (u_649 : Int32) (u_650 : Int32) (u_651 : Int32) (u_652 : Int32) (u_653 : Int32) (u_654 : Int32) (u_655 : Int32) (u_656 : Int64) =>
         if (r_647 : Int32) = 0 then (
          (0, u_649, u_650, u_651, u_652, u_653, u_654, u_655, u_656, h0_told)
         ) else (
          (1, u_649, u_650, u_651, u_652, u_653, u_654, u_655, u_656, h0_told)
         )
        ) else (
         (0, u_610, u_611, u_612, u_613, u_614, u_615, u_616, u_617, h0_told)
        )
       )
      )
     )
    ) else (
     if (h0_lineMany : Int32) = 40 then (
      lt2 (y_X12_bad 4 h0_kind) fun (r_818 : Int32) (u_820 : Int32) =>
      (0, h0_to, h0_from, h0_kind, h0_number, h0_sign, u_820, h0_from, h0_word, h0_told)
     ) else (
      lt6 (y_X12_go h0_size h0_limit h0_to h0_number h0_sign h0_word F_h0_tape) fun (u_715 : Int32) (u_716 : Int32) (u_717 : Int32) (u_718 : Int32) (u_719 : Int32) (u_720 : Int64) =>
      lt10 (y_X12_readNumber 1 60 h0_size h0_limit u_715 u_716 u_717 u_718 u_719 h0_fault h0_place u_720 h0_told F_h0_tape) fun (r_727 : Int32) (u_729 : Int32) (u_730 : Int32) (u_731 : Int32) (u_732 : Int32) (u_733 : Int32) (u_734 : Int32) (u_735 : Int32) (u_736 : Int64) (u_737 : Int32) =>
      if (r_727 : Int32) = 0 then (
       (0, u_729, u_730, u_731, u_732, u_733, u_734, u_735, u_736, u_737)
      ) else (
       lt9 (y_X12_readEnd h0_size h0_limit u_729 u_730 u_731 u_732 u_733 u_734 u_735 u_736 F_h0_tape) fun (r_775 : Int32) (u_777 : Int32) (u_778 : Int32) (u_779 : Int32) (u_780 : Int32) (u_781 : Int32) (u_782 : Int32) (u_783 : Int32) (u_784 : Int64) =>
       if (r_775 : Int32) = 0 then (
        (0, u_777, u_778, u_779, u_780, u_781, u_782, u_783, u_784, u_737)
       ) else (
        (1, u_777, u_778, u_779, u_780, u_781, u_782, u_783, u_784, u_737)
       )
      )
     )
    )
   ) else (
    lt1 (y_X12_isWord_14 h0_kind h0_word) fun (r_823 : Int32) =>
    if (r_823 : Int32) = 0 then (
     if (h0_lineMany : Int32) = 40 then (
      lt2 (y_X12_bad 4 h0_kind) fun (r_943 : Int32) (u_945 : Int32) =>
      (0, h0_to, h0_from, h0_kind, h0_number, h0_sign, u_945, h0_from, h0_word, h0_told)
     ) else (
      lt6 (y_X12_go h0_size h0_limit h0_to h0_number h0_sign h0_word F_h0_tape) fun (u_843 : Int32) (u_844 : Int32) (u_845 : Int32) (u_846 : Int32) (u_847 : Int32) (u_848 : Int64) =>
      lt1 (F_h0_now (2 : Int32).toNatClampNeg) fun (x_855 : Int32) =>
      lt10 (y_X12_readNamed_c x_855 h0_size h0_limit u_843 u_844 u_845 u_846 u_847 h0_fault h0_place u_848 h0_told F_h0_name F_h0_tape) fun (r_857 : Int32) (u_859 : Int32) (u_860 : Int32) (u_861 : Int32) (u_862 : Int32) (u_863 : Int32) (u_864 : Int32) (u_865 : Int32) (u_866 : Int64) (u_867 : Int32) =>
      if (r_857 : Int32) = 0 then (
       (0, u_859, u_860, u_861, u_862, u_863, u_864, u_865, u_866, u_867)
      ) else (
       lt9 (y_X12_readEnd h0_size h0_limit u_859 u_860 u_861 u_862 u_863 u_864 u_865 u_866 F_h0_tape) fun (r_900 : Int32) (u_902 : Int32) (u_903 : Int32) (u_904 : Int32) (u_905 : Int32) (u_906 : Int32) (u_907 : Int32) (u_908 : Int32) (u_909 : Int64) =>
       if (r_900 : Int32) = 0 then (
        (0, u_902, u_903, u_904, u_905, u_906, u_907, u_908, u_909, u_867)
       ) else (
        (1, u_902, u_903, u_904, u_905, u_906, u_907, u_908, u_909, u_867)
       )
      )
     )
    ) else (
     (0, 0, 0, 0, 0, 0, 0, 0, 0, 0)
    )
   )
  ) else (
   lt1 (y_X12_isWord_13 h0_kind h0_word) fun (r_948 : Int32) =>
   if (r_948 : Int32) = 0 then (
    lt1 (y_X12_isWord_14 h0_kind h0_word) fun (r_955 : Int32) =>
    if (r_955 : Int32) = 0 then (
     if (h0_lineMany : Int32) = 40 then (
      lt2 (y_X12_bad 4 h0_kind) fun (r_1075 : Int32) (u_1077 : Int32) =>
      (0, h0_to, h0_from, h0_kind, h0_number, h0_sign, u_1077, h0_from, h0_word, h0_told)
     ) else (
      lt6 (y_X12_go h0_size h0_limit h0_to h0_number h0_sign h0_word F_h0_tape) fun (u_975 : Int32) (u_976 : Int32) (u_977 : Int32) (u_978 : Int32) (u_979 : Int32) (u_980 : Int64) =>
      lt1 (F_h0_now (2 : Int32).toNatClampNeg) fun (x_987 : Int32) =>
      lt10 (y_X12_readNamed_c x_987 h0_size h0_limit u_975 u_976 u_977 u_978 u_979 h0_fault h0_place u_980 h0_told F_h0_name F_h0_tape) fun (r_989 : Int32) (u_991 : Int32) (u_992 : Int32) (u_993 : Int32) (u_994 : Int32) (u_995 : Int32) (u_996 : Int32) (u_997 : Int32) (u_998 : Int64) (u_999 : Int32) =>
      if (r_989 : Int32) = 0 then (
       (0, u_991, u_992, u_993, u_994, u_995, u_996, u_997, u_998, u_999)
      ) else (
       lt9 (y_X12_readEnd h0_size h0_limit u_991 u_992 u_993 u_994 u_995 u_996 u_997 u_998 F_h0_tape) fun (r_1032 : Int32) (u_1034 : Int32) (u_1035 : Int32) (u_1036 : Int32) (u_1037 : Int32) (u_1038 : Int32) (u_1039 : Int32) (u_1040 : Int32) (u_1041 : Int64) =>
       if (r_1032 : Int32) = 0 then (
        (0, u_1034, u_1035, u_1036, u_1037, u_1038, u_1039, u_1040, u_1041, u_999)
       ) else (
        (1, u_1034, u_1035, u_1036, u_1037, u_1038, u_1039, u_1040, u_1041, u_999)
       )
      )
     )
    ) else (
     (0, 0, 0, 0, 0, 0, 0, 0, 0, 0)
    )
   ) else (
    (0, 0, 0, 0, 0, 0, 0, 0, 0, 0)
   )
  )
theorem y_X12_readBookLine_s (h0_size : Int32) (h0_limit : Int32) (h0_to : Int32) (h0_from : Int32) (h0_kind : Int32) (h0_number : Int32) (h0_sign : Int32) (h0_fault : Int32) (h0_place : Int32) (h0_word : Int64) (h0_told : Int32) (h0_lineMany : Int32) (F_h0_now : Nat → Int32) (F_h0_name : Nat → Int64) (F_h0_tape : Nat → Int32)  : y_X12_readBookLine h0_size h0_limit h0_to h0_from h0_kind h0_number h0_sign h0_fault h0_place h0_word h0_told h0_lineMany F_h0_now F_h0_name F_h0_tape = (
  lt1 (y_X12_isWord_12 h0_kind h0_word) fun (r_536 : Int32) =>
  if (r_536 : Int32) = 0 then (
   lt1 (y_X12_isWord_13 h0_kind h0_word) fun (r_543 : Int32) =>
   if (r_543 : Int32) = 0 then (
    lt1 (y_X12_isWord_14 h0_kind h0_word) fun (r_550 : Int32) =>
    if (r_550 : Int32) = 0 then (
     lt1 (y_X12_isName h0_kind h0_word) fun (r_557 : Int32) =>
     if (r_557 : Int32) = 0 then (
      lt2 (y_X12_bad 1 h0_kind) fun (r_564 : Int32) (u_566 : Int32) =>
      (0, h0_to, h0_from, h0_kind, h0_number, h0_sign, u_566, h0_from, h0_word, h0_told)
     ) else (
      lt1 (F_h0_now (0 : Int32).toNatClampNeg) fun (x_569 : Int32) =>
      lt1 (y_X12_findIn_0 x_569 h0_word F_h0_name) fun (r_571 : Int32) =>
      if (r_571 : Int32) = (-1) then (
       lt2 (y_X12_bad 3 h0_kind) fun (r_697 : Int32) (u_699 : Int32) =>
       (0, h0_to, h0_from, h0_kind, h0_number, h0_sign, u_699, h0_from, h0_word, h0_told)
      ) else (
       if (h0_lineMany : Int32) = 40 then (
        lt2 (y_X12_bad 4 h0_kind) fun (r_689 : Int32) (u_691 : Int32) =>
        (0, h0_to, h0_from, h0_kind, h0_number, h0_sign, u_691, h0_from, h0_word, h0_told)
       ) else (
        lt1 (y_X12_findIn_0 x_569 h0_word F_h0_name) fun (r_587 : Int32) =>
        lt6 (y_X12_go h0_size h0_limit h0_to h0_number h0_sign h0_word F_h0_tape) fun (u_595 : Int32) (u_596 : Int32) (u_597 : Int32) (u_598 : Int32) (u_599 : Int32) (u_600 : Int64) =>
        lt9 (y_X12_readDoes h0_size h0_limit u_595 u_596 u_597 u_598 u_599 h0_fault h0_place u_600 F_h0_tape) fun (r_608 : Int32) (u_610 : Int32) (u_611 : Int32) (u_612 : Int32) (u_613 : Int32) (u_614 : Int32) (u_615 : Int32) (u_616 : Int32) (u_617 : Int64) =>
        if (r_608 : Int32) = 1 then (
         lt9 (y_X12_readEnd h0_size h0_limit u_610 u_611 u_612 u_613 u_614 u_615 u_616 u_617 F_h0_tape) fun (r_647 : Int32) (u_649 : Int32) (u_650 : Int32) (u_651 : Int32) (u_652 : Int32) (u_653 : Int32) (u_654 : Int32) (u_655 : Int32) (u_656 : Int64) =>
         if (r_647 : Int32) = 0 then (
          (0, u_649, u_650, u_651, u_652, u_653, u_654, u_655, u_656, h0_told)
         ) else (
          (1, u_649, u_650, u_651, u_652, u_653, u_654, u_655, u_656, h0_told)
         )
        ) else (
         (0, u_610, u_611, u_612, u_613, u_614, u_615, u_616, u_617, h0_told)
        )
       )
      )
     )
    ) else (
     if (h0_lineMany : Int32) = 40 then (
      lt2 (y_X12_bad 4 h0_kind) fun (r_818 : Int32) (u_820 : Int32) =>
      (0, h0_to, h0_from, h0_kind, h0_number, h0_sign, u_820, h0_from, h0_word, h0_told)
     ) else (
      lt6 (y_X12_go h0_size h0_limit h0_to h0_number h0_sign h0_word F_h0_tape) fun (u_715 : Int32) (u_716 : Int32) (u_717 : Int32) (u_718 : Int32) (u_719 : Int32) (u_720 : Int64) =>
      lt10 (y_X12_readNumber 1 60 h0_size h0_limit u_715 u_716 u_717 u_718 u_719 h0_fault h0_place u_720 h0_told F_h0_tape) fun (r_727 : Int32) (u_729 : Int32) (u_730 : Int32) (u_731 : Int32) (u_732 : Int32) (u_733 : Int32) (u_734 : Int32) (u_735 : Int32) (u_736 : Int64) (u_737 : Int32) =>
      if (r_727 : Int32) = 0 then (
       (0, u_729, u_730, u_731, u_732, u_733, u_734, u_735, u_736, u_737)
      ) else (
       lt9 (y_X12_readEnd h0_size h0_limit u_729 u_730 u_731 u_732 u_733 u_734 u_735 u_736 F_h0_tape) fun (r_775 : Int32) (u_777 : Int32) (u_778 : Int32) (u_779 : Int32) (u_780 : Int32) (u_781 : Int32) (u_782 : Int32) (u_783 : Int32) (u_784 : Int64) =>
       if (r_775 : Int32) = 0 then (
        (0, u_777, u_778, u_779, u_780, u_781, u_782, u_783, u_784, u_737)
       ) else (
        (1, u_777, u_778, u_779, u_780, u_781, u_782, u_783, u_784, u_737)
       )
      )
     )
    )
   ) else (
    lt1 (y_X12_isWord_14 h0_kind h0_word) fun (r_823 : Int32) =>
    if (r_823 : Int32) = 0 then (
     if (h0_lineMany : Int32) = 40 then (
      lt2 (y_X12_bad 4 h0_kind) fun (r_943 : Int32) (u_945 : Int32) =>
      (0, h0_to, h0_from, h0_kind, h0_number, h0_sign, u_945, h0_from, h0_word, h0_told)
     ) else (
      lt6 (y_X12_go h0_size h0_limit h0_to h0_number h0_sign h0_word F_h0_tape) fun (u_843 : Int32) (u_844 : Int32) (u_845 : Int32) (u_846 : Int32) (u_847 : Int32) (u_848 : Int64) =>
      lt1 (F_h0_now (2 : Int32).toNatClampNeg) fun (x_855 : Int32) =>
      lt10 (y_X12_readNamed_c x_855 h0_size h0_limit u_843 u_844 u_845 u_846 u_847 h0_fault h0_place u_848 h0_told F_h0_name F_h0_tape) fun (r_857 : Int32) (u_859 : Int32) (u_860 : Int32) (u_861 : Int32) (u_862 : Int32) (u_863 : Int32) (u_864 : Int32) (u_865 : Int32) (u_866 : Int64) (u_867 : Int32) =>
      if (r_857 : Int32) = 0 then (
       (0, u_859, u_860, u_861, u_862, u_863, u_864, u_865, u_866, u_867)
      ) else (
       lt9 (y_X12_readEnd h0_size h0_limit u_859 u_860 u_861 u_862 u_863 u_864 u_865 u_866 F_h0_tape) fun (r_900 : Int32) (u_902 : Int32) (u_903 : Int32) (u_904 : Int32) (u_905 : Int32) (u_906 : Int32) (u_907 : Int32) (u_908 : Int32) (u_909 : Int64) =>
       if (r_900 : Int32) = 0 then (
        (0, u_902, u_903, u_904, u_905, u_906, u_907, u_908, u_909, u_867)
       ) else (
        (1, u_902, u_903, u_904, u_905, u_906, u_907, u_908, u_909, u_867)
       )
      )
     )
    ) else (
     (0, 0, 0, 0, 0, 0, 0, 0, 0, 0)
    )
   )
  ) else (
   lt1 (y_X12_isWord_13 h0_kind h0_word) fun (r_948 : Int32) =>
   if (r_948 : Int32) = 0 then (
    lt1 (y_X12_isWord_14 h0_kind h0_word) fun (r_955 : Int32) =>
    if (r_955 : Int32) = 0 then (
     if (h0_lineMany : Int32) = 40 then (
      lt2 (y_X12_bad 4 h0_kind) fun (r_1075 : Int32) (u_1077 : Int32) =>
      (0, h0_to, h0_from, h0_kind, h0_number, h0_sign, u_1077, h0_from, h0_word, h0_told)
     ) else (
      lt6 (y_X12_go h0_size h0_limit h0_to h0_number h0_sign h0_word F_h0_tape) fun (u_975 : Int32) (u_976 : Int32) (u_977 : Int32) (u_978 : Int32) (u_979 : Int32) (u_980 : Int64) =>
      lt1 (F_h0_now (2 : Int32).toNatClampNeg) fun (x_987 : Int32) =>
      lt10 (y_X12_readNamed_c x_987 h0_size h0_limit u_975 u_976 u_977 u_978 u_979 h0_fault h0_place u_980 h0_told F_h0_name F_h0_tape) fun (r_989 : Int32) (u_991 : Int32) (u_992 : Int32) (u_993 : Int32) (u_994 : Int32) (u_995 : Int32) (u_996 : Int32) (u_997 : Int32) (u_998 : Int64) (u_999 : Int32) =>
      if (r_989 : Int32) = 0 then (
       (0, u_991, u_992, u_993, u_994, u_995, u_996, u_997, u_998, u_999)
      ) else (
       lt9 (y_X12_readEnd h0_size h0_limit u_991 u_992 u_993 u_994 u_995 u_996 u_997 u_998 F_h0_tape) fun (r_1032 : Int32) (u_1034 : Int32) (u_1035 : Int32) (u_1036 : Int32) (u_1037 : Int32) (u_1038 : Int32) (u_1039 : Int32) (u_1040 : Int32) (u_1041 : Int64) =>
       if (r_1032 : Int32) = 0 then (
        (0, u_1034, u_1035, u_1036, u_1037, u_1038, u_1039, u_1040, u_1041, u_999)
       ) else (
        (1, u_1034, u_1035, u_1036, u_1037, u_1038, u_1039, u_1040, u_1041, u_999)
       )
      )
     )
    ) else (
     (0, 0, 0, 0, 0, 0, 0, 0, 0, 0)
    )
   ) else (
    (0, 0, 0, 0, 0, 0, 0, 0, 0, 0)
   )
  )) := rfl
