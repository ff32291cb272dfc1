/-! READING: the two ways of taking a TOKEN, side by side -/
def agr (n : Int32) (F G : Nat → Int32) : Prop := ∀ j : Nat, (j : Int) < n.toInt → F j = G j
/-- the first place from p on, below e, that bears no blank -/
def sk (F : Nat → Int32) (e : Nat) : Nat → Nat → Nat
  | 0, p => p
  | k + 1, p => if p < e ∧ (F p = 32 ∨ F p = 10) then sk F e k (p + 1) else p
theorem sk_ge (F : Nat → Int32) (e : Nat) : ∀ k p : Nat, p ≤ sk F e k p := by
  intro k
  induction k with
  | zero => intro p; exact Nat.le_refl _
  | succ k ih =>
    intro p
    unfold sk
    split
    · exact Nat.le_trans (Nat.le_succ p) (ih (p + 1))
    · exact Nat.le_refl _
theorem sk_le (F : Nat → Int32) (e : Nat) : ∀ k p : Nat, p ≤ e → sk F e k p ≤ e := by
  intro k
  induction k with
  | zero => intro p h; exact h
  | succ k ih =>
    intro p h
    unfold sk
    split
    · exact ih (p + 1) (by omega)
    · exact h
theorem sk_mx (F : Nat → Int32) (e : Nat) : ∀ k p : Nat, sk F e k p ≤ max e p := by
  intro k
  induction k with
  | zero => intro p; exact Nat.le_max_right _ _
  | succ k ih =>
    intro p
    unfold sk
    split
    · rename_i c
      have h := ih (p + 1)
      omega
    · exact Nat.le_max_right _ _
theorem sk_0 {F : Nat → Int32} {e p : Nat} (h : e ≤ p) : sk F e (e - p) p = p := by rw [show e - p = 0 by omega]; rfl
theorem sk_s {F : Nat → Int32} {e p : Nat} (h : p < e) : sk F e (e - p) p = if F p = 32 ∨ F p = 10 then sk F e (e - (p + 1)) (p + 1) else p := by
  rw [show e - p = (e - (p + 1)) + 1 by omega]
  show (if p < e ∧ (F p = 32 ∨ F p = 10) then sk F e (e - (p + 1)) (p + 1) else p) = _
  by_cases c : F p = 32 ∨ F p = 10
  · rw [if_pos ⟨h, c⟩, if_pos c]
  · rw [if_neg (fun z => c z.2), if_neg c]
theorem sk_b {F : Nat → Int32} {e p : Nat} (h : p < e) (c : F p = 32 ∨ F p = 10) : sk F e (e - p) p = sk F e (e - (p + 1)) (p + 1) := by rw [sk_s h, if_pos c]
theorem sk_n {F : Nat → Int32} {e p : Nat} (h : p < e) (c : ¬ (F p = 32 ∨ F p = 10)) : sk F e (e - p) p = p := by rw [sk_s h, if_neg c]
/-- both edges, rows that agree -/
theorem sk_two {F G : Nat → Int32} {e n : Nat} (hen : e ≤ n) (ha : ∀ j, j < n → F j = G j) : ∀ d p : Nat, e - p ≤ d → (sk F e (e - p) p < e → sk G n (n - p) p = sk F e (e - p) p) ∧ (e ≤ sk F e (e - p) p → e ≤ sk G n (n - p) p) := by
  intro d
  induction d with
  | zero =>
    intro p h
    rw [sk_0 (F := F) (show e ≤ p by omega)]
    exact ⟨fun z => absurd z (by omega), fun z => Nat.le_trans z (sk_ge G n _ p)⟩
  | succ d ih =>
    intro p h
    by_cases c : e ≤ p
    · rw [sk_0 (F := F) c]
      exact ⟨fun z => absurd z (by omega), fun z => Nat.le_trans z (sk_ge G n _ p)⟩
    · have hf := ha p (by omega)
      by_cases b : F p = 32 ∨ F p = 10
      · rw [sk_b (by omega) b, sk_b (F := G) (by omega) (by rw [← hf]; exact b)]
        exact ih (p + 1) (by omega)
      · rw [sk_n (by omega) b, sk_n (F := G) (by omega) (by rw [← hf]; exact b)]
        exact ⟨fun _ => rfl, fun z => z⟩
theorem skC (len most num : Int32) (F : Nat → Int32) : ∀ k e p : Nat, e ≤ 940 → p ≤ 940 → e ≤ p + k → y_X6_advance_20 len most num F (k + 1) (nI e) (nI p) = y_X6_advance_69 len most num F (nI e) (nI (sk F e (e - p) p)) := by
  intro k
  induction k with
  | zero =>
    intro e p he hp h
    rw [y_X6_advance_20_s, if_pos (nI_le (by omega) (by omega)), sk_0 (by omega)]
  | succ k ih =>
    intro e p he hp h
    rw [y_X6_advance_20_s]
    by_cases c : e ≤ p
    · rw [if_pos (nI_le c (by omega)), sk_0 c]
    · rw [if_neg (nI_ge (by omega) (by omega))]
      simp only [lt1, nI_clamp (show p < 2 ^ 31 by omega), nI_1]
      by_cases a : F p = 32
      · rw [if_pos a, ih e (p + 1) he (by omega) (by omega), sk_b (by omega) (Or.inl a)]
      · rw [if_neg a]
        by_cases b : F p = 10
        · rw [if_pos b, ih e (p + 1) he (by omega) (by omega), sk_b (by omega) (Or.inr b)]
        · rw [if_neg b, sk_n (by omega) (fun z => z.elim a b)]
theorem skR (lim num sg : Int32) (wd : Int64) (G : Nat → Int32) : ∀ k n p : Nat, n ≤ 940 → p ≤ 940 → n ≤ p + k → y_X12_go_0 (nI n) lim num sg wd G (k + 1) (nI p) = y_X12_go_52 (nI n) lim num sg wd G (nI (sk G n (n - p) p)) := by
  intro k
  induction k with
  | zero =>
    intro n p he hp h
    rw [y_X12_go_0_s, if_pos (nI_le (by omega) (by omega)), sk_0 (by omega)]
  | succ k ih =>
    intro n p he hp h
    rw [y_X12_go_0_s]
    by_cases c : n ≤ p
    · rw [if_pos (nI_le c (by omega)), sk_0 c]
    · rw [if_neg (nI_ge (by omega) (by omega))]
      simp only [lt1, nI_clamp (show p < 2 ^ 31 by omega), nI_1]
      by_cases a : G p = 32
      · rw [if_pos a, ih n (p + 1) he (by omega) (by omega), sk_b (by omega) (Or.inl a)]
      · rw [if_neg a]
        by_cases b : G p = 10
        · rw [if_pos b, ih n (p + 1) he (by omega) (by omega), sk_b (by omega) (Or.inr b)]
        · rw [if_neg b, sk_n (by omega) (fun z => z.elim a b)]
theorem goR (lim num sg : Int32) (wd : Int64) (G : Nat → Int32) (n p : Nat) (hn : n ≤ 940) (hp : p ≤ 940) : y_X12_go (nI n) lim (nI p) num sg wd G = y_X12_go_52 (nI n) lim num sg wd G (nI (sk G n (n - p) p)) := by
  rw [y_X12_go_s]
  by_cases c : n ≤ p
  · rw [if_pos (nI_le c (by omega)), sk_0 c]
  · rw [if_neg (nI_ge (by omega) (by omega))]
    simp only [lt1, nI_clamp (show p < 2 ^ 31 by omega), nI_1]
    by_cases a : G p = 32
    · rw [if_pos a, skR lim num sg wd G 939 n (p + 1) hn (by omega) (by omega), sk_b (by omega) (Or.inl a)]
    · rw [if_neg a]
      by_cases b : G p = 10
      · rw [if_pos b, skR lim num sg wd G 939 n (p + 1) hn (by omega) (by omega), sk_b (by omega) (Or.inr b)]
      · rw [if_neg b, sk_n (by omega) (fun z => z.elim a b)]
/-! words: the same letters, in base 32 and in base 27 -/
def encL : List Int32 → Int64
  | [] => 0
  | x :: l => encL l * 32 + ((x - 97) + 1).toInt64
def encW : List Int32 → Int64
  | [] => 0
  | x :: l => 27 * encW l + x.toInt64 - 96
def isL (x : Int32) : Prop := ¬ x < 97 ∧ ¬ (122 : Int32) < x
def isD (x : Int32) : Prop := ¬ x < 48 ∧ ¬ (57 : Int32) < x
def goodW (l : List Int32) : Prop := l ≠ [] ∧ l.length ≤ 7 ∧ ∀ x ∈ l, isL x
def wr (L W : Int64) : Prop := ∃ l : List Int32, goodW l ∧ L = encL l ∧ W = encW l
theorem isL_rg {x : Int32} (h : isL x) : rg 97 122 x := by
  obtain ⟨a, b⟩ := h
  rw [Int32.lt_iff_toInt_lt] at a b
  have z1 : (97 : Int32).toInt = 97 := by decide
  have z2 : (122 : Int32).toInt = 122 := by decide
  exact ⟨by omega, by omega⟩
theorem isD_rg {x : Int32} (h : isD x) : rg 48 57 x := by
  obtain ⟨a, b⟩ := h
  rw [Int32.lt_iff_toInt_lt] at a b
  have z1 : (48 : Int32).toInt = 48 := by decide
  have z2 : (57 : Int32).toInt = 57 := by decide
  exact ⟨by omega, by omega⟩
theorem cd32 {x : Int32} (h : isL x) : (((x - 97) + 1).toInt64).toInt = x.toInt - 96 := by
  obtain ⟨a, b⟩ := isL_rg h
  have z1 : (97 : Int32).toInt = 97 := by decide
  have z2 : (1 : Int32).toInt = 1 := by decide
  have e1 := tsub (x := x) (y := 97) (a := 97) (b := 122) (d := 97) (f := 97) ⟨a, b⟩ ⟨by omega, by omega⟩ (by decide) (by decide)
  have e2 := tadd (x := x - 97) (y := 1) (a := 0) (b := 25) (d := 1) (f := 1) ⟨by omega, by omega⟩ ⟨by omega, by omega⟩ (by decide) (by decide)
  rw [Int32.toInt_toInt64]
  omega
theorem encL_v : ∀ l : List Int32, l.length ≤ 7 → (∀ x ∈ l, isL x) → 0 ≤ (encL l).toInt ∧ (encL l).toInt < 32 ^ l.length ∧ (l ≠ [] → 0 < (encL l).toInt) := by
  intro l
  induction l with
  | nil => intro _ _; exact ⟨by decide, by decide, fun h => absurd rfl h⟩
  | cons x l ih =>
    intro h1 h2
    have h1' : l.length ≤ 6 := by simp at h1; omega
    obtain ⟨p, q, -⟩ := ih (by omega) (fun y hy => h2 y (List.mem_cons_of_mem _ hy))
    have hx := h2 x List.mem_cons_self
    have cx := cd32 hx
    obtain ⟨a, b⟩ := isL_rg hx
    have hb : (32 : Int) ^ l.length ≤ 1073741824 := by
      rcases (show l.length = 0 ∨ l.length = 1 ∨ l.length = 2 ∨ l.length = 3 ∨ l.length = 4 ∨ l.length = 5 ∨ l.length = 6 by omega) with e | e | e | e | e | e | e <;> rw [e] <;> decide
    have e1 : (encL l * 32 + ((x - 97) + 1).toInt64).toInt = (encL l).toInt * 32 + (x.toInt - 96) := by
      rw [Int64.toInt_add, Int64.toInt_mul, cx, show (32 : Int64).toInt = 32 from by decide, bm64 (z := (encL l).toInt * 32) (by omega) (by omega), bm64 (by omega) (by omega)]
    have e2 : (32 : Int) ^ (x :: l).length = 32 ^ l.length * 32 := by simp [Int.pow_succ]
    show 0 ≤ (encL l * 32 + ((x - 97) + 1).toInt64).toInt ∧ (encL l * 32 + ((x - 97) + 1).toInt64).toInt < 32 ^ (x :: l).length ∧ (_ → 0 < (encL l * 32 + ((x - 97) + 1).toInt64).toInt)
    rw [e1, e2]
    refine ⟨by omega, by omega, fun _ => by omega⟩
theorem encL_c {x : Int32} {l : List Int32} (h1 : (x :: l).length ≤ 7) (h2 : ∀ y ∈ x :: l, isL y) : (encL (x :: l)).toInt = (encL l).toInt * 32 + (x.toInt - 96) := by
  have h1' : l.length ≤ 6 := by simp at h1; omega
  obtain ⟨p, q, -⟩ := encL_v l (by omega) (fun y hy => h2 y (List.mem_cons_of_mem _ hy))
  have hx := h2 x List.mem_cons_self
  have cx := cd32 hx
  obtain ⟨a, b⟩ := isL_rg hx
  have hb : (32 : Int) ^ l.length ≤ 1073741824 := by
    rcases (show l.length = 0 ∨ l.length = 1 ∨ l.length = 2 ∨ l.length = 3 ∨ l.length = 4 ∨ l.length = 5 ∨ l.length = 6 by omega) with e | e | e | e | e | e | e <;> rw [e] <;> decide
  show (encL l * 32 + ((x - 97) + 1).toInt64).toInt = _
  rw [Int64.toInt_add, Int64.toInt_mul, cx, show (32 : Int64).toInt = 32 from by decide, bm64 (z := (encL l).toInt * 32) (by omega) (by omega), bm64 (by omega) (by omega)]
theorem encW_v : ∀ l : List Int32, l.length ≤ 7 → (∀ x ∈ l, isL x) → 0 ≤ (encW l).toInt ∧ (encW l).toInt < 27 ^ l.length ∧ (∀ x m, l = x :: m → (encW l).toInt = 27 * (encW m).toInt + (x.toInt - 96)) := by
  intro l
  induction l with
  | nil => intro _ _; exact ⟨by decide, by decide, fun x m h => by cases h⟩
  | cons x l ih =>
    intro h1 h2
    have h1' : l.length ≤ 6 := by simp at h1; omega
    obtain ⟨p, q, -⟩ := ih (by omega) (fun y hy => h2 y (List.mem_cons_of_mem _ hy))
    obtain ⟨a, b⟩ := isL_rg (h2 x List.mem_cons_self)
    have hb : (27 : Int) ^ l.length ≤ 387420489 := by
      rcases (show l.length = 0 ∨ l.length = 1 ∨ l.length = 2 ∨ l.length = 3 ∨ l.length = 4 ∨ l.length = 5 ∨ l.length = 6 by omega) with e | e | e | e | e | e | e <;> rw [e] <;> decide
    have e1 : (27 * encW l + x.toInt64 - 96).toInt = 27 * (encW l).toInt + (x.toInt - 96) := by
      rw [Int64.toInt_sub, Int64.toInt_add, Int64.toInt_mul, Int32.toInt_toInt64, show (27 : Int64).toInt = 27 from by decide, show (96 : Int64).toInt = 96 from by decide, bm64 (z := 27 * (encW l).toInt) (by omega) (by omega), bm64 (z := 27 * (encW l).toInt + x.toInt) (by omega) (by omega), bm64 (by omega) (by omega)]
      omega
    have e2 : (27 : Int) ^ (x :: l).length = 27 ^ l.length * 27 := by simp [Int.pow_succ]
    have e3 : (encW (x :: l)).toInt = 27 * (encW l).toInt + (x.toInt - 96) := e1
    rw [e3, e2]
    refine ⟨by omega, by omega, fun y m h => ?_⟩
    cases h; rfl
theorem encL_inj : ∀ l m : List Int32, l.length ≤ 7 → m.length ≤ 7 → (∀ x ∈ l, isL x) → (∀ x ∈ m, isL x) → encL l = encL m → l = m := by
  intro l
  induction l with
  | nil =>
    intro m _ h2 _ h4 e
    cases m with
    | nil => rfl
    | cons y m =>
      have q := (encL_v (y :: m) h2 h4).2.2 (by simp)
      rw [← e] at q
      exact absurd q (by decide)
  | cons x l ih =>
    intro m h1 h2 h3 h4 e
    cases m with
    | nil =>
      have q := (encL_v (x :: l) h1 h3).2.2 (by simp)
      rw [e] at q
      exact absurd q (by decide)
    | cons y m =>
      have e1 := encL_c h1 h3
      have e2 := encL_c h2 h4
      rw [e, e2] at e1
      obtain ⟨a, b⟩ := isL_rg (h3 x List.mem_cons_self)
      obtain ⟨a', b'⟩ := isL_rg (h4 y List.mem_cons_self)
      have e3 : (encL l).toInt = (encL m).toInt := by omega
      have e4 : x.toInt = y.toInt := by omega
      have e5 := ih m (by simp at h1; omega) (by simp at h2; omega) (fun z hz => h3 z (List.mem_cons_of_mem _ hz)) (fun z hz => h4 z (List.mem_cons_of_mem _ hz)) (Int64.toInt_inj.mp e3)
      rw [e5, Int32.toInt_inj.mp e4]
theorem encW_inj : ∀ l m : List Int32, l.length ≤ 7 → m.length ≤ 7 → (∀ x ∈ l, isL x) → (∀ x ∈ m, isL x) → encW l = encW m → l = m := by
  intro l
  induction l with
  | nil =>
    intro m _ h2 _ h4 e
    cases m with
    | nil => rfl
    | cons y m =>
      have q := (encW_v (y :: m) h2 h4).2.2 y m rfl
      have r := (encW_v m (by simp at h2; omega) (fun z hz => h4 z (List.mem_cons_of_mem _ hz))).1
      obtain ⟨a', b'⟩ := isL_rg (h4 y List.mem_cons_self)
      rw [← e] at q
      have z : (encW []).toInt = 0 := by decide
      omega
  | cons x l ih =>
    intro m h1 h2 h3 h4 e
    obtain ⟨a, b⟩ := isL_rg (h3 x List.mem_cons_self)
    have e1 := (encW_v (x :: l) h1 h3).2.2 x l rfl
    have r1 := (encW_v l (by simp at h1; omega) (fun z hz => h3 z (List.mem_cons_of_mem _ hz))).1
    cases m with
    | nil =>
      rw [e] at e1
      have z : (encW []).toInt = 0 := by decide
      omega
    | cons y m =>
      have e2 := (encW_v (y :: m) h2 h4).2.2 y m rfl
      rw [e, e2] at e1
      obtain ⟨a', b'⟩ := isL_rg (h4 y List.mem_cons_self)
      have e3 : (encW l).toInt = (encW m).toInt := by omega
      have e4 : x.toInt = y.toInt := by omega
      have e5 := ih m (by simp at h1; omega) (by simp at h2; omega) (fun z hz => h3 z (List.mem_cons_of_mem _ hz)) (fun z hz => h4 z (List.mem_cons_of_mem _ hz)) (Int64.toInt_inj.mp e3)
      rw [e5, Int32.toInt_inj.mp e4]
theorem wr_iff {L W L' W' : Int64} (h : wr L W) (h' : wr L' W') : L = L' ↔ W = W' := by
  obtain ⟨l, ⟨-, a, b⟩, rfl, rfl⟩ := h
  obtain ⟨m, ⟨-, a', b'⟩, rfl, rfl⟩ := h'
  exact ⟨fun e => by rw [encL_inj l m a a' b b' e], fun e => by rw [encW_inj l m a a' b b' e]⟩
