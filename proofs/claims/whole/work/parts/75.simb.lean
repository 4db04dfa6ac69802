/-! SIMULATION 2: what the class's memory σ and the reference's memory τ have in common between calls, and behind a lost one -/
def r_D (σ τ : me_M) : Prop := (∀ p, p < 12 → (∀ s, s < 4 → σ (6 + 4 * p + 2) s = τ 1 (4 * p + s) ∧ σ (6 + 4 * p + 3) s = nI p) ∧ ∀ w, w < 16 → σ (6 + 4 * p + 1) w = τ 2 (16 * p + w)) ∧ (∀ p, p < 4 → (∀ s, s < 4 → σ (6 + 4 * (12 + p) + 2) s = τ 3 (4 * p + s) ∧ σ (6 + 4 * (12 + p) + 3) s = τ 4 (4 * p + s)) ∧ ∀ w, w < 16 → σ (6 + 4 * (12 + p) + 1) w = τ 5 (16 * p + w))
def r_P (σ τ : me_M) : Prop := σ 0 6 = τ 0 26 ∧ σ 0 7 = τ 0 27 ∧ σ 0 8 = τ 0 28 ∧ σ 0 14 = τ 0 23
def r_L (σ τ : me_M) : Prop := ∀ r, r < 12 → σ (70 + 2 * r) 0 = τ 6 r ∧ σ (70 + 2 * r) 1 = τ 7 r ∧ σ (70 + 2 * r) 2 = τ 8 r ∧ σ (70 + 2 * r) 3 = τ 9 r
def r_I (σ : me_M) : Prop := ∀ a, 70 ≤ a → a < 94 → vp_in (σ a 1) 12 ∧ vp_in (σ a 2) 16
def r_J (τ : me_M) : Prop := ∀ i, i < 16 → vp_in (τ 15 i) 200000 ∧ vp_in (τ 16 i) 12 ∧ vp_in (τ 17 i) 16
def r_G (σ τ : me_M) : Prop := ∀ k, k < 4 → σ (94 + 2 * k) 1 = τ 10 k ∧ σ (94 + 2 * k) 3 = τ 12 k ∧ (¬ τ 10 k = -1 → σ (94 + 2 * k) 2 = τ 11 k ∧ ∀ w, w < 16 → σ (94 + 2 * k + 1) w = τ 14 (16 * k + w))
def r_E (σ : me_M) : Prop := (∀ k, k < 4 → (σ (94 + 2 * k) 1 = -1 → σ (94 + 2 * k) 2 = 0 ∧ σ (94 + 2 * k) 3 = 0 ∧ ∀ w, w < 16 → σ (94 + 2 * k + 1) w = 0) ∧ (¬ σ (94 + 2 * k) 1 = -1 → vp_in (σ (94 + 2 * k) 1) 12)) ∧ ∀ k l, k < 4 → l < 4 → k ≠ l → ¬ σ (94 + 2 * k) 1 = -1 → ¬ σ (94 + 2 * k) 1 = σ (94 + 2 * l) 1
def r_A (B : Nat) (σ τ : me_M) : Prop := ∃ (α β : Nat → Nat) (ca cb : Nat), σ 0 13 = nI ca ∧ τ 0 16 = nI cb ∧ ca ≤ B ∧ cb ≤ B ∧ (∀ k, k < 4 → σ (94 + 2 * k) 4 = nI (α k) ∧ α k ≤ ca ∧ (τ 10 k = -1 → α k = 0) ∧ (¬ τ 10 k = -1 → 0 < α k ∧ τ 13 k = nI (β k) ∧ β k ≤ cb)) ∧ (∀ k l, k < 4 → l < 4 → k ≠ l → ¬ τ 10 k = -1 → ¬ τ 10 l = -1 → α k ≠ α l ∧ (α k < α l ↔ β k < β l))
def r_W (B : Nat) (σ τ : me_M) : Prop := ∃ n w m : Nat, σ 0 12 = nI n ∧ σ 0 11 = nI w ∧ σ 0 3 = nI m ∧ w + m ≤ n ∧ n ≤ m + 12 ∧ n ≤ B ∧ (¬ σ 0 5 = 0 → w = 0) ∧ ∀ i, i < w → σ (70 + 2 * ((n - w + i) % 12) + 1) 0 = nI (n - w + i) ∧ τ 15 i = nI (n - w + i) ∧ σ (70 + 2 * ((n - w + i) % 12) + 1) 1 = τ 16 i ∧ σ (70 + 2 * ((n - w + i) % 12) + 1) 2 = τ 17 i ∧ σ (70 + 2 * ((n - w + i) % 12) + 1) 3 = τ 18 i
def r_Q (σ τ : me_M) : Prop := σ 0 3 = τ 0 10 ∧ σ 0 12 = τ 0 17 ∧ σ 0 5 = τ 0 25 ∧ σ 0 11 = τ 0 18
def r_X (B : Nat) (σ τ : me_M) : Prop := r_L σ τ ∧ r_I σ ∧ r_J τ ∧ r_G σ τ ∧ r_E σ ∧ r_A B σ τ ∧ r_W B σ τ ∧ r_Q σ τ
def rl (B : Nat) (σ τ : me_M) : Prop := r_D σ τ ∧ (σ 0 4 = τ 0 24 ∧ r_P σ τ) ∧ r_X B σ τ
def r_f (B : Nat) (σ τ : me_M) : Prop := r_D σ τ ∧ r_P σ τ ∧ (r_L σ τ ∧ r_I σ ∧ r_J τ) ∧ (σ 0 3 = τ 0 10 ∧ σ 0 12 = τ 0 17 ∧ ∃ n m : Nat, σ 0 12 = nI n ∧ σ 0 3 = nI m ∧ m ≤ n ∧ n ≤ m + 12 ∧ n ≤ B) ∧ (∃ ca cb : Nat, σ 0 13 = nI ca ∧ τ 0 16 = nI cb ∧ ca ≤ B ∧ cb ≤ B) ∧ (τ 0 24 = -1 ∧ τ 0 25 = 1 ∧ τ 0 18 = 0 ∧ ∀ k, k < 4 → τ 10 k = -1 ∧ τ 12 k = 0)
theorem r_X_of {B : Nat} {σ τ σ' τ' : me_M} (h1 : ∀ a, 70 ≤ a → σ' a = σ a) (h2 : ∀ k, k = 3 ∨ k = 5 ∨ k = 11 ∨ k = 12 ∨ k = 13 → σ' 0 k = σ 0 k) (h3 : ∀ a, 6 ≤ a → τ' a = τ a) (h4 : ∀ k, k = 10 ∨ k = 16 ∨ k = 17 ∨ k = 18 ∨ k = 25 → τ' 0 k = τ 0 k) (h : r_X B σ τ) : r_X B σ' τ' := by
  have e94 : ∀ k, σ' (94 + 2 * k) = σ (94 + 2 * k) := fun k => h1 _ (by omega)
  have e95 : ∀ k, σ' (94 + 2 * k + 1) = σ (94 + 2 * k + 1) := fun k => h1 _ (by omega)
  have e70 : ∀ k, σ' (70 + 2 * k) = σ (70 + 2 * k) := fun k => h1 _ (by omega)
  have e71 : ∀ k, σ' (70 + 2 * k + 1) = σ (70 + 2 * k + 1) := fun k => h1 _ (by omega)
  have c3 := h2 3 (by simp)
  have c5 := h2 5 (by simp)
  have c11 := h2 11 (by simp)
  have c12 := h2 12 (by simp)
  have c13 := h2 13 (by simp)
  have t10 := h4 10 (by simp)
  have t16 := h4 16 (by simp)
  have t17 := h4 17 (by simp)
  have t18 := h4 18 (by simp)
  have t25 := h4 25 (by simp)
  have d6 := h3 6 (by simp)
  have d7 := h3 7 (by simp)
  have d8 := h3 8 (by simp)
  have d9 := h3 9 (by simp)
  have d10 := h3 10 (by simp)
  have d11 := h3 11 (by simp)
  have d12 := h3 12 (by simp)
  have d13 := h3 13 (by simp)
  have d14 := h3 14 (by simp)
  have d15 := h3 15 (by simp)
  have d16 := h3 16 (by simp)
  have d17 := h3 17 (by simp)
  have d18 := h3 18 (by simp)
  obtain ⟨hL, hI, hJ, hG, hE, hA, hW, hQ⟩ := h
  refine ⟨?_, ?_, ?_, ?_, ?_, ?_, ?_, ?_⟩
  · unfold r_L at hL ⊢
    simp only [e70, d6, d7, d8, d9]
    exact hL
  · intro a h7 h9
    rw [h1 a h7]
    exact hI a h7 h9
  · unfold r_J at hJ ⊢
    simp only [d15, d16, d17]
    exact hJ
  · unfold r_G at hG ⊢
    simp only [e94, e95, d10, d11, d12, d14]
    exact hG
  · unfold r_E at hE ⊢
    simp only [e94, e95]
    exact hE
  · unfold r_A at hA ⊢
    simp only [e94, d10, d13, c13, t16]
    exact hA
  · unfold r_W at hW ⊢
    simp only [e71, c3, c5, c11, c12, d15, d16, d17, d18]
    exact hW
  · unfold r_Q at hQ ⊢
    simp only [c3, c5, c11, c12, t10, t17, t18, t25]
    exact hQ
/-- what a call needs of the two -/
theorem rl_kI {B : Nat} {σ τ : me_M} (hB : B ≤ 90000) (h : rl B σ τ) : k_I σ := by
  obtain ⟨-, -, hL, hI, hJ, hG, hE, hA, ⟨n, w, m, e1, e2, e3, h1, h2, h3, -, -⟩, hQ⟩ := h
  refine ⟨fun k hk hd => ?_, hI, ?_, ?_, ?_, ?_⟩
  · by_cases hp : σ (94 + 2 * k) 1 = -1
    · exact absurd ((hE.1 k hk).1 hp).2.1 hd
    · exact (hE.1 k hk).2 hp
  · rw [e2]; exact vp_in_nI (by omega) (by omega)
  · rw [e1]; exact vp_in_nI (by omega) (by omega)
  · rw [e1, e2, nI_clamp (by omega), nI_clamp (by omega)]; omega
  · rw [e3]; exact vp_in_nI (by omega) (by omega)
theorem rl_mI {B : Nat} {σ τ : me_M} (hB : B ≤ 90000) (h : rl B σ τ) : m_I τ ∧ vp_in (τ 0 17) 99000 ∧ (¬ τ 0 25 = 0 → τ 0 18 = nI 0) := by
  obtain ⟨-, -, hL, hI, hJ, hG, hE, hA, ⟨n, w, m, e1, e2, e3, h1, h2, h3, h4, -⟩, q1, q2, q3, q4⟩ := h
  rw [q2] at e1
  rw [q4] at e2
  rw [q1] at e3
  refine ⟨⟨?_, hJ, fun k hk hd => ?_, fun r hr => ?_, ?_, ?_, ?_⟩, ?_, fun hd => ?_⟩
  · rw [e2]; exact vp_in_nI (by omega) (by omega)
  · obtain ⟨g1, g2, -⟩ := hG k hk
    rw [← g2] at hd
    rw [← g1]
    by_cases hp : σ (94 + 2 * k) 1 = -1
    · exact absurd ((hE.1 k hk).1 hp).2.1 hd
    · exact (hE.1 k hk).2 hp
  · obtain ⟨-, l2, l3, -⟩ := hL r hr
    rw [← l2, ← l3]
    exact hI _ (by omega) (by omega)
  · rw [e3]; exact vp_in_nI (by omega) (by omega)
  · rw [e1]; exact vp_in_nI (by omega) (by omega)
  · rw [e1, e2, e3, nI_clamp (by omega), nI_clamp (by omega), nI_clamp (by omega)]; omega
  · rw [e1]; exact vp_in_nI (by omega) (by omega)
  · rw [← q3] at hd
    rw [e2, h4 hd]
theorem r_D_t {σ τ τ' : me_M} (h : ∀ a, 1 ≤ a → a < 6 → τ' a = τ a) (hD : r_D σ τ) : r_D σ τ' := by
  unfold r_D at hD ⊢
  simp only [h 1 (by omega) (by omega), h 2 (by omega) (by omega), h 3 (by omega) (by omega), h 4 (by omega) (by omega), h 5 (by omega) (by omega)]
  exact hD
theorem r_D_s {σ σ' τ : me_M} (h : ∀ a, 6 ≤ a → a < 70 → σ' a = σ a) (hD : r_D σ τ) : r_D σ' τ := by
  refine ⟨fun p hp => ?_, fun p hp => ?_⟩
  · rw [h (6 + 4 * p + 1) (by omega) (by omega), h (6 + 4 * p + 2) (by omega) (by omega), h (6 + 4 * p + 3) (by omega) (by omega)]
    exact hD.1 p hp
  · rw [h (6 + 4 * (12 + p) + 1) (by omega) (by omega), h (6 + 4 * (12 + p) + 2) (by omega) (by omega), h (6 + 4 * (12 + p) + 3) (by omega) (by omega)]
    exact hD.2 p hp
theorem s_md_c (s : me_M) {a : Nat} (h0 : a ≠ 0) (h1 : a ≠ 10) (h2 : a ≠ 12) : m_down s a = s a := by
  funext b
  rw [s_md]
  simp only [h0, h1, h2, false_and, if_false]
theorem s_md_0 (s : me_M) {b : Nat} (h : b ≠ 18 ∧ b ≠ 24 ∧ b ≠ 25) : m_down s 0 b = s 0 b := by
  rw [s_md, if_neg (by omega), if_neg (by omega), if_neg (by omega), if_neg (by omega), if_neg (by omega)]
theorem rl_f {B : Nat} {σ τ : me_M} (h : rl B σ τ) : r_f B σ (m_down τ) := by
  obtain ⟨hD, ⟨-, p1, p2, p3, p4⟩, hL, hI, hJ, hG, hE, ⟨α, β, ca, cb, a1, a2, a3, a4, -, -⟩, ⟨n, w, m, e1, e2, e3, h1, h2, h3, -, -⟩, q1, q2, -, -⟩ := h
  refine ⟨r_D_t (fun a _ _ => s_md_c τ (by omega) (by omega) (by omega)) hD, ⟨?_, ?_, ?_, ?_⟩, ⟨?_, hI, ?_⟩, ⟨?_, ?_, n, m, e1, e3, by omega, h2, h3⟩, ⟨ca, cb, a1, ?_, a3, a4⟩, ?_, ?_, ?_, fun k hk => ⟨?_, ?_⟩⟩
  · rw [s_md_0 τ (by omega)]; exact p1
  · rw [s_md_0 τ (by omega)]; exact p2
  · rw [s_md_0 τ (by omega)]; exact p3
  · rw [s_md_0 τ (by omega)]; exact p4
  · intro r hr
    rw [s_md_c τ (a := 6) (by omega) (by omega) (by omega), s_md_c τ (a := 7) (by omega) (by omega) (by omega), s_md_c τ (a := 8) (by omega) (by omega) (by omega), s_md_c τ (a := 9) (by omega) (by omega) (by omega)]
    exact hL r hr
  · intro i hi
    rw [s_md_c τ (a := 15) (by omega) (by omega) (by omega), s_md_c τ (a := 16) (by omega) (by omega) (by omega), s_md_c τ (a := 17) (by omega) (by omega) (by omega)]
    exact hJ i hi
  · rw [s_md_0 τ (by omega)]; exact q1
  · rw [s_md_0 τ (by omega)]; exact q2
  · rw [s_md_0 τ (by omega)]; exact a2
  · rw [s_md]; simp
  · rw [s_md]; simp
  · rw [s_md]; simp
  · rw [s_md]; simp [hk]
  · rw [s_md]; simp [hk]
theorem s_down_c (s : me_M) {a : Nat} (h0 : a ≠ 0) (h1 : a < 94) : k_down s a = s a := by
  funext b
  rw [s_down, if_neg (by omega), if_neg (by omega), if_neg (by omega), if_neg (by omega), if_neg (by omega), if_neg (by omega)]
theorem s_down_0 (s : me_M) {b : Nat} (h : b ≠ 4 ∧ b ≠ 5 ∧ b ≠ 11) : k_down s 0 b = s 0 b := by
  rw [s_down, if_neg (by omega), if_neg (by omega), if_neg (by omega), if_neg (by omega), if_neg (by omega), if_neg (by omega)]
theorem s_down_f (s : me_M) {k b : Nat} (hk : k < 4) : k_down s (94 + 2 * k) b = if b = 1 then -1 else if b = 2 ∨ b = 3 ∨ b = 4 then 0 else s (94 + 2 * k) b := by
  rw [s_down]
  repeat' split
  all_goals first | rfl | omega
theorem s_down_w (s : me_M) {k b : Nat} (hk : k < 4) (hb : b < 16) : k_down s (94 + 2 * k + 1) b = 0 := by
  rw [s_down]
  repeat' split
  all_goals first | rfl | omega
theorem rl_of_f {B : Nat} {σ τ : me_M} (h : r_f B σ τ) : rl B (k_down σ) τ := by
  obtain ⟨hD, ⟨p1, p2, p3, p4⟩, ⟨hL, hI, hJ⟩, ⟨q1, q2, n, m, e1, e3, h1, h2, h3⟩, ⟨ca, cb, a1, a2, a3, a4⟩, d1, d2, d3, d4⟩ := h
  refine ⟨r_D_s (fun a _ _ => s_down_c σ (by omega) (by omega)) hD, ⟨?_, ?_, ?_, ?_, ?_⟩, ?_, ?_, hJ, ?_, ⟨?_, ?_⟩, ?_, ?_, ?_⟩
  · rw [d1, s_down]; simp
  · rw [s_down_0 σ (by omega)]; exact p1
  · rw [s_down_0 σ (by omega)]; exact p2
  · rw [s_down_0 σ (by omega)]; exact p3
  · rw [s_down_0 σ (by omega)]; exact p4
  · intro r hr
    rw [s_down_c σ (a := 70 + 2 * r) (by omega) (by omega)]
    exact hL r hr
  · intro a h7 h9
    rw [s_down_c σ (by omega) h9]
    exact hI a h7 h9
  · intro k hk
    rw [s_down_f σ hk, s_down_f σ hk, (d4 k hk).1, (d4 k hk).2]
    exact ⟨by simp, by simp, fun h => absurd rfl h⟩
  · intro k hk
    rw [s_down_f σ hk, s_down_f σ hk, s_down_f σ hk]
    exact ⟨fun _ => ⟨by simp, by simp, fun w hw => s_down_w σ hk hw⟩, fun h => absurd (by simp) h⟩
  · intro k l hk hl hkl h
    rw [s_down_f σ hk] at h
    exact absurd (by simp) h
  · refine ⟨fun _ => 0, fun _ => 0, ca, cb, ?_, a2, a3, a4, fun k hk => ⟨?_, Nat.zero_le _, fun _ => rfl, fun h => absurd (d4 k hk).1 h⟩, fun k l hk hl _ h _ => absurd (d4 k hk).1 h⟩
    · rw [s_down_0 σ (by omega)]; exact a1
    · rw [s_down_f σ hk]; rfl
  · refine ⟨n, 0, m, ?_, ?_, ?_, by omega, h2, h3, fun _ => rfl, fun i hi => by omega⟩
    · rw [s_down_0 σ (by omega)]; exact e1
    · rw [s_down]; rfl
    · rw [s_down_0 σ (by omega)]; exact e3
  · refine ⟨?_, ?_, ?_, ?_⟩
    · rw [s_down_0 σ (by omega)]; exact q1
    · rw [s_down_0 σ (by omega)]; exact q2
    · rw [d2, s_down]; rfl
    · rw [d3, s_down]; rfl
/-- THE POWER, asked before a sector -/
theorem sim_ph {B : Nat} {σ τ σ' τ' : me_M} {r q : Int32} (h : rl B σ τ) (e1 : k_ph σ = (r, σ')) (e2 : m_mw τ = (q, τ')) : (r = nI 1 ∧ q = nI 1 ∧ rl B σ' τ' ∧ (∀ a, a ≠ 0 → σ' a = σ a) ∧ (∀ k, k ≠ 4 → k ≠ 6 → σ' 0 k = σ 0 k) ∧ (∀ a, a ≠ 0 → τ' a = τ a) ∧ (∀ k, k ≠ 24 → k ≠ 26 → τ' 0 k = τ 0 k)) ∨ (r = nI 0 ∧ q = nI 0 ∧ σ' = σ ∧ r_f B σ' τ') := by
  have hp := h.2.1.1
  simp only [k_ph] at e1
  simp only [m_mw] at e2
  by_cases h0 : σ 0 4 = 0
  · rw [if_pos h0] at e1
    rw [if_pos (hp ▸ h0)] at e2
    cases e1
    cases e2
    exact Or.inr ⟨rfl, rfl, rfl, rl_f h⟩
  · rw [if_neg h0] at e1
    rw [if_neg (hp ▸ h0)] at e2
    refine Or.inl ?_
    obtain ⟨hD, ⟨-, p1, p2, p3, p4⟩, hX⟩ := h
    have key : ∀ (x y : Int32), x = y → ∀ σ1 τ1 : me_M, (∀ a b, σ1 a b = if a = 0 ∧ b = 6 then σ 0 6 + nI 1 else if a = 0 ∧ b = 4 then x else σ a b) → (∀ a b, τ1 a b = if a = 0 ∧ b = 26 then τ 0 26 + nI 1 else if a = 0 ∧ b = 24 then y else τ a b) → rl B σ1 τ1 ∧ (∀ a, a ≠ 0 → σ1 a = σ a) ∧ (∀ k, k ≠ 4 → k ≠ 6 → σ1 0 k = σ 0 k) ∧ (∀ a, a ≠ 0 → τ1 a = τ a) ∧ (∀ k, k ≠ 24 → k ≠ 26 → τ1 0 k = τ 0 k) := by
      intro x y hxy σ1 τ1 f1 f2
      have g1 : ∀ a, a ≠ 0 → σ1 a = σ a := fun a ha => by funext b; rw [f1, if_neg (by omega), if_neg (by omega)]
      have g2 : ∀ k, k ≠ 4 → k ≠ 6 → σ1 0 k = σ 0 k := fun k h4 h6 => by rw [f1, if_neg (by omega), if_neg (by omega)]
      have g3 : ∀ a, a ≠ 0 → τ1 a = τ a := fun a ha => by funext b; rw [f2, if_neg (by omega), if_neg (by omega)]
      have g4 : ∀ k, k ≠ 24 → k ≠ 26 → τ1 0 k = τ 0 k := fun k h4 h6 => by rw [f2, if_neg (by omega), if_neg (by omega)]
      refine ⟨⟨r_D_s (fun a _ _ => g1 a (by omega)) (r_D_t (fun a _ _ => g3 a (by omega)) hD), ⟨?_, ?_, ?_, ?_, ?_⟩, r_X_of (fun a _ => g1 a (by omega)) (fun k _ => g2 k (by omega) (by omega)) (fun a _ => g3 a (by omega)) (fun k _ => g4 k (by omega) (by omega)) hX⟩, g1, g2, g3, g4⟩
      · rw [f1, f2]; simp [hxy]
      · rw [f1, f2]; simp [p1]
      · rw [g2 7 (by omega) (by omega), g4 27 (by omega) (by omega)]; exact p2
      · rw [g2 8 (by omega) (by omega), g4 28 (by omega) (by omega)]; exact p3
      · rw [g2 14 (by omega) (by omega), g4 23 (by omega) (by omega)]; exact p4
    by_cases h1 : σ 0 4 ≤ 0
    · rw [if_pos h1] at e1
      rw [if_pos (hp ▸ h1)] at e2
      cases e1
      cases e2
      refine ⟨rfl, rfl, key (σ 0 4) (τ 0 24 - nI 0) ?_ _ _ ?_ ?_⟩
      · rw [hp, show nI 0 = (0 : Int32) from rfl, Int32.sub_zero]
      · intro a b; simp only [me_st_eq]; grind
      · intro a b; simp only [me_st_eq]; grind
    · rw [if_neg h1] at e1
      rw [if_neg (hp ▸ h1)] at e2
      cases e1
      cases e2
      refine ⟨rfl, rfl, key (σ 0 4 - nI 1) (τ 0 24 - nI 1) (by rw [hp]) _ _ ?_ ?_⟩
      · intro a b; simp only [me_st_eq]; grind
      · intro a b; simp only [me_st_eq]; grind
