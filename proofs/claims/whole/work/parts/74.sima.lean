/-! SIMULATION 1: the mirrors' small writes in closed form -/
theorem s_put9 : ∀ (n j d : Nat) (x y : Int32) (q i : Nat) (s : me_M), q ≠ 6 + 4 * j + 1 → d < 4 → d * 4 ≤ i → i ≤ d * 4 + 4 → d * 4 + 5 ≤ n + i → ∀ a b, k_put_9 n j d x y q i s a b = if a = 6 + 4 * j + 1 ∧ i ≤ b ∧ b < d * 4 + 4 then s q b else if a = 6 + 4 * j + 2 ∧ b = d then y else if a = 6 + 4 * j + 3 ∧ b = d then x else s a b := by
  intro n
  induction n with
  | zero => intro j d x y q i s hq hd h1 h2 h3; omega
  | succ n ih =>
    intro j d x y q i s hq hd h1 h2 h3 a b
    have e : (nI (d * 4 + 4) ≤ nI i) ↔ (d * 4 + 4 ≤ i) := nI_leI (by omega) (by omega)
    simp only [k_put_9, e]
    by_cases h : d * 4 + 4 ≤ i
    · rw [if_pos h]
      simp only [me_st_eq]
      grind
    · rw [if_neg h, ih j d x y q (i + 1) _ hq hd (by omega) (by omega) (by omega)]
      simp only [me_st_eq]
      grind
theorem s_put (j d : Nat) (x y : Int32) (q : Nat) (s : me_M) (hq : q ≠ 6 + 4 * j + 1) (hd : d < 4) (a b : Nat) : k_put j d x y q s a b = if a = 6 + 4 * j + 1 ∧ d * 4 ≤ b ∧ b < d * 4 + 4 then s q b else if a = 6 + 4 * j + 2 ∧ b = d then y else if a = 6 + 4 * j + 3 ∧ b = d then x else s a b := by
  unfold k_put
  exact s_put9 5 j d x y q (d * 4) s hq hd (by omega) (by omega) (by omega) a b
theorem s_empty2 : ∀ (n k i : Nat) (s : me_M), i ≤ 16 → 17 ≤ n + i → ∀ a b, k_empty_2 n k i s a b = if a = 94 + 2 * k + 1 ∧ i ≤ b ∧ b < 16 then 0 else if a = 94 + 2 * k ∧ b = 1 then -1 else if a = 94 + 2 * k ∧ (b = 2 ∨ b = 3 ∨ b = 4) then 0 else s a b := by
  intro n
  induction n with
  | zero => intro k i s h1 h2; omega
  | succ n ih =>
    intro k i s h1 h2 a b
    have e : (nI 16 ≤ nI i) ↔ (16 ≤ i) := nI_leI (by omega) (by omega)
    have e0 : nI 0 = (0 : Int32) := rfl
    simp only [k_empty_2, e]
    by_cases h : 16 ≤ i
    · rw [if_pos h]
      simp only [me_st_eq]
      grind
    · rw [if_neg h, ih k (i + 1) _ (by omega) (by omega)]
      simp only [me_st_eq]
      grind
theorem s_empty (k : Nat) (s : me_M) (a b : Nat) : k_empty k s a b = if a = 94 + 2 * k + 1 ∧ b < 16 then 0 else if a = 94 + 2 * k ∧ b = 1 then -1 else if a = 94 + 2 * k ∧ (b = 2 ∨ b = 3 ∨ b = 4) then 0 else s a b := by
  unfold k_empty
  rw [s_empty2 17 k 0 s (by omega) (by omega)]
  simp only [Nat.zero_le, true_and]
theorem s_down2 : ∀ (n i : Nat) (s : me_M), i ≤ 4 → 5 ≤ n + i → ∀ a b, k_down_2 n i s a b = if a = 0 ∧ b = 5 then 1 else if a = 0 ∧ b = 4 then -1 else if a = 0 ∧ b = 11 then 0 else if (94 + 2 * i ≤ a ∧ a < 102) ∧ a % 2 = 1 ∧ b < 16 then 0 else if (94 + 2 * i ≤ a ∧ a < 102) ∧ a % 2 = 0 ∧ b = 1 then -1 else if (94 + 2 * i ≤ a ∧ a < 102) ∧ a % 2 = 0 ∧ (b = 2 ∨ b = 3 ∨ b = 4) then 0 else s a b := by
  intro n
  induction n with
  | zero => intro i s h1 h2; omega
  | succ n ih =>
    intro i s h1 h2 a b
    have e : (nI 4 ≤ nI i) ↔ (4 ≤ i) := nI_leI (by omega) (by omega)
    have e0 : nI 0 = (0 : Int32) := rfl
    have e1 : nI 1 = (1 : Int32) := rfl
    simp only [k_down_2, e]
    by_cases h : 4 ≤ i
    · rw [if_pos h]
      simp only [me_st_eq]
      grind
    · rw [if_neg h, ih (i + 1) _ (by omega) (by omega)]
      simp only [s_empty]
      clear ih
      repeat' split
      all_goals first | rfl | omega
theorem s_down (s : me_M) (a b : Nat) : k_down s a b = if a = 0 ∧ b = 5 then 1 else if a = 0 ∧ b = 4 then -1 else if a = 0 ∧ b = 11 then 0 else if (94 ≤ a ∧ a < 102) ∧ a % 2 = 1 ∧ b < 16 then 0 else if (94 ≤ a ∧ a < 102) ∧ a % 2 = 0 ∧ b = 1 then -1 else if (94 ≤ a ∧ a < 102) ∧ a % 2 = 0 ∧ (b = 2 ∨ b = 3 ∨ b = 4) then 0 else s a b := by
  unfold k_down
  exact s_down2 5 0 s (by omega) (by omega) a b
theorem s_fill2 : ∀ (n k : Nat) (x : Int32) (j i : Nat) (s : me_M), j < 16 → k < 4 → i ≤ 16 → 17 ≤ n + i → ∀ a b, k_fill_2 n k x j i s a b = if a = 94 + 2 * k + 1 ∧ i ≤ b ∧ b < 16 then s (6 + 4 * j + 1) b else if a = 94 + 2 * k ∧ b = 1 then x else if a = 94 + 2 * k ∧ b = 2 then s (6 + 4 * j + 2) 0 else if a = 94 + 2 * k ∧ b = 3 then 0 else s a b := by
  intro n
  induction n with
  | zero => intro k x j i s hj hk h1 h2; omega
  | succ n ih =>
    intro k x j i s hj hk h1 h2 a b
    have e : (nI 16 ≤ nI i) ↔ (16 ≤ i) := nI_leI (by omega) (by omega)
    have e0 : nI 0 = (0 : Int32) := rfl
    simp only [k_fill_2, e]
    by_cases h : 16 ≤ i
    · rw [if_pos h]
      simp only [me_st_eq]
      grind
    · rw [if_neg h, ih k x j (i + 1) _ hj hk (by omega) (by omega)]
      simp only [me_st_eq]
      grind
theorem s_fill (k : Nat) (x : Int32) (j : Nat) (s : me_M) (hj : j < 16) (hk : k < 4) (a b : Nat) : k_fill k x j s a b = if a = 94 + 2 * k + 1 ∧ b < 16 then s (6 + 4 * j + 1) b else if a = 94 + 2 * k ∧ b = 1 then x else if a = 94 + 2 * k ∧ b = 2 then s (6 + 4 * j + 2) 0 else if a = 94 + 2 * k ∧ b = 3 then 0 else s a b := by
  unfold k_fill
  rw [s_fill2 17 k x j 0 s hj hk (by omega) (by omega)]
  simp only [Nat.zero_le, true_and]
theorem s_set (c : Nat) (x0 x1 x2 x3 : Int32) (s : me_M) (a b : Nat) : k_set c x0 x1 x2 x3 s a b = if a = c ∧ b = 0 then x0 else if a = c ∧ b = 1 then x1 else if a = c ∧ b = 2 then x2 else if a = c ∧ b = 3 then x3 else s a b := by
  simp only [k_set, me_st_eq]
  grind
theorem s_copy (c d : Nat) (s : me_M) (a b : Nat) : k_copy c d s a b = if a = c ∧ b < 4 then s d b else s a b := by
  simp only [k_copy, s_set]
  grind
theorem s_cw (k t : Nat) (x y : Int32) (s : me_M) (a b : Nat) : k_cw k t x y s a b = if a = 94 + 2 * k + 1 ∧ b = t then x else if a = 94 + 2 * k ∧ b = 2 then y else if a = 94 + 2 * k ∧ b = 3 then 1 else s a b := by
  have e1 : nI 1 = (1 : Int32) := rfl
  simp only [k_cw, me_st_eq]
  grind
/-! the reference's -/
theorem s_md17 : ∀ (n i : Nat) (s : me_M), i ≤ 4 → 5 ≤ n + i → ∀ a b, m_down_17 n i s a b = if a = 10 ∧ i ≤ b ∧ b < 4 then -1 else if a = 12 ∧ i ≤ b ∧ b < 4 then 0 else s a b := by
  intro n
  induction n with
  | zero => intro i s h1 h2; omega
  | succ n ih =>
    intro i s h1 h2 a b
    have e : (nI 4 ≤ nI i) ↔ (4 ≤ i) := nI_leI (by omega) (by omega)
    have e0 : nI 0 = (0 : Int32) := rfl
    simp only [m_down_17, e]
    by_cases h : 4 ≤ i
    · rw [if_pos h]
      grind
    · rw [if_neg h, ih (i + 1) _ (by omega) (by omega)]
      simp only [me_st_eq]
      grind
theorem s_md (s : me_M) (a b : Nat) : m_down s a b = if a = 0 ∧ b = 24 then -1 else if a = 0 ∧ b = 25 then 1 else if a = 0 ∧ b = 18 then 0 else if a = 10 ∧ b < 4 then -1 else if a = 12 ∧ b < 4 then 0 else s a b := by
  have e0 : nI 0 = (0 : Int32) := rfl
  have e1 : nI 1 = (1 : Int32) := rfl
  simp only [m_down]
  rw [s_md17 5 0 _ (by omega) (by omega)]
  simp only [me_st_eq]
  grind
theorem s_wh36 : ∀ (n c : Nat) (y : Int32) (d : Nat) (o : Int32) (i t : Nat) (s : me_M), i < 4 → 4 * i ≤ t → t ≤ 4 * i + 4 → 4 * i + 5 ≤ n + t → ∀ a b, m_wh_36 n c y d o i t s a b = if a = 2 ∧ 16 * c + t ≤ b ∧ b < 16 * c + 4 * i + 4 then (if o = 0 then s 5 (16 * d + (b - 16 * c)) else s 14 (16 * d + (b - 16 * c))) else s a b := by
  intro n
  induction n with
  | zero => intro c y d o i t s hi h1 h2 h3; omega
  | succ n ih =>
    intro c y d o i t s hi h1 h2 h3 a b
    have e : (nI (4 * i + 4) ≤ nI t) ↔ (4 * i + 4 ≤ t) := nI_leI (by omega) (by omega)
    simp only [m_wh_36, e]
    by_cases h : 4 * i + 4 ≤ t
    · rw [if_pos h, if_neg (by omega)]
    · rw [if_neg h]
      by_cases ho : o = 0
      · rw [if_pos ho, ih c y d o i (t + 1) _ hi (by omega) (by omega) (by omega)]
        simp only [me_st_eq, if_pos ho]
        grind
      · rw [if_neg ho, ih c y d o i (t + 1) _ hi (by omega) (by omega) (by omega)]
        simp only [me_st_eq, if_neg ho]
        grind
theorem s_wb60 : ∀ (n c d i t : Nat) (s : me_M), i < 4 → 4 * i ≤ t → t ≤ 4 * i + 4 → 4 * i + 5 ≤ n + t → ∀ a b, m_wb_60 n c d i t s a b = if a = 5 ∧ 16 * c + t ≤ b ∧ b < 16 * c + 4 * i + 4 then s 14 (16 * d + (b - 16 * c)) else s a b := by
  intro n
  induction n with
  | zero => intro c d i t s hi h1 h2 h3; omega
  | succ n ih =>
    intro c d i t s hi h1 h2 h3 a b
    have e : (nI (4 * i + 4) ≤ nI t) ↔ (4 * i + 4 ≤ t) := nI_leI (by omega) (by omega)
    simp only [m_wb_60, e]
    by_cases h : 4 * i + 4 ≤ t
    · rw [if_pos h, if_neg (by omega)]
    · rw [if_neg h, ih c d i (t + 1) _ hi (by omega) (by omega) (by omega)]
      simp only [me_st_eq]
      grind
theorem s_br176 : ∀ (n g : Nat) (w : Int32) (i : Nat) (s : me_M), i ≤ 16 → 17 ≤ n + i → ∀ a b, m_br_176 n g w i s a b = if a = 14 ∧ 16 * w.toNatClampNeg + i ≤ b ∧ b < 16 * w.toNatClampNeg + 16 then s 2 (16 * g + (b - 16 * w.toNatClampNeg)) else s a b := by
  intro n
  induction n with
  | zero => intro g w i s h1 h2; omega
  | succ n ih =>
    intro g w i s h1 h2 a b
    have e : (nI 16 ≤ nI i) ↔ (16 ≤ i) := nI_leI (by omega) (by omega)
    simp only [m_br_176, e]
    by_cases h : 16 ≤ i
    · rw [if_pos h, if_neg (by omega)]
    · rw [if_neg h, ih g w (i + 1) _ (by omega) (by omega)]
      simp only [me_st_eq]
      grind
