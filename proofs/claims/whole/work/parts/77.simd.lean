/-! SIMULATION 4: the changes that wait go to the log -/
theorem nI_m3 {w : Nat} (h : w < 2 ^ 31) : ¬ nI w = (-3) := by
  intro e
  have := congrArg Int32.toInt e
  rw [nI_toInt h] at this
  have h2 : (-3 : Int32).toInt = -3 := by decide
  omega
theorem nI_m1 {w : Nat} (h : w < 2 ^ 31) : ¬ nI w = (-1) := by
  intro e
  have := congrArg Int32.toInt e
  rw [nI_toInt h] at this
  have h2 : (-1 : Int32).toInt = -1 := by decide
  omega
theorem r_X_log {B : Nat} {σ τ σ' τ' : me_M} (hL' : r_L σ' τ') (hI' : r_I σ') (h1 : ∀ a, 94 ≤ a → σ' a = σ a) (h71 : ∀ r, r < 12 → σ' (70 + 2 * r + 1) = σ (70 + 2 * r + 1)) (h2 : ∀ k, k = 3 ∨ k = 5 ∨ k = 11 ∨ k = 12 ∨ k = 13 → σ' 0 k = σ 0 k) (h3 : ∀ a, 10 ≤ a → τ' a = τ a) (h4 : ∀ k, k = 10 ∨ k = 16 ∨ k = 17 ∨ k = 18 ∨ k = 25 → τ' 0 k = τ 0 k) (h : r_X B σ τ) : r_X B σ' τ' := by
  have e94 : ∀ k, σ' (94 + 2 * k) = σ (94 + 2 * k) := fun k => h1 _ (by omega)
  have e95 : ∀ k, σ' (94 + 2 * k + 1) = σ (94 + 2 * k + 1) := fun k => h1 _ (by omega)
  have e71 : ∀ k, σ' (70 + 2 * (k % 12) + 1) = σ (70 + 2 * (k % 12) + 1) := fun k => h71 _ (by omega)
  have c3 := h2 3 (by simp)
  have c5 := h2 5 (by simp)
  have c11 := h2 11 (by simp)
  have c12 := h2 12 (by simp)
  have c13 := h2 13 (by simp)
  have t10 := h4 10 (by simp)
  have t16 := h4 16 (by simp)
  have t17 := h4 17 (by simp)
  have t18 := h4 18 (by simp)
  have t25 := h4 25 (by simp)
  have d10 := h3 10 (by simp)
  have d11 := h3 11 (by simp)
  have d12 := h3 12 (by simp)
  have d13 := h3 13 (by simp)
  have d14 := h3 14 (by simp)
  have d15 := h3 15 (by simp)
  have d16 := h3 16 (by simp)
  have d17 := h3 17 (by simp)
  have d18 := h3 18 (by simp)
  obtain ⟨hL, hI, hJ, hG, hE, hA, hW, hQ⟩ := h
  refine ⟨hL', hI', ?_, ?_, ?_, ?_, ?_, ?_⟩
  · unfold r_J at hJ ⊢
    simp only [d15, d16, d17]
    exact hJ
  · unfold r_G at hG ⊢
    simp only [e94, e95, d10, d11, d12, d14]
    exact hG
  · unfold r_E at hE ⊢
    simp only [e94, e95]
    exact hE
  · unfold r_A at hA ⊢
    simp only [e94, d10, d13, c13, t16]
    exact hA
  · unfold r_W at hW ⊢
    simp only [e71, c3, c5, c11, c12, d15, d16, d17, d18]
    exact hW
  · unfold r_Q at hQ ⊢
    simp only [c3, c5, c11, c12, t10, t17, t18, t25]
    exact hQ
def r_lk (B : Nat) (σ τ σ' τ' : me_M) : Prop := rl B σ' τ' ∧ (∀ a, 94 ≤ a → σ' a = σ a) ∧ (∀ k, k ≠ 4 → k ≠ 6 → k ≠ 11 → σ' 0 k = σ 0 k) ∧ (∀ a, 10 ≤ a → τ' a = τ a) ∧ (∀ k, k ≠ 18 → k ≠ 24 → k ≠ 26 → τ' 0 k = τ 0 k)
theorem r_lk.tr {B : Nat} {σ τ σ1 τ1 σ2 τ2 : me_M} (h1 : r_lk B σ τ σ1 τ1) (h2 : r_lk B σ1 τ1 σ2 τ2) : r_lk B σ τ σ2 τ2 :=
  ⟨h2.1, fun a h => (h2.2.1 a h).trans (h1.2.1 a h), fun k h h' h'' => (h2.2.2.1 k h h' h'').trans (h1.2.2.1 k h h' h''), fun a h => (h2.2.2.2.1 a h).trans (h1.2.2.2.1 a h), fun k h h' h'' => (h2.2.2.2.2 k h h' h'').trans (h1.2.2.2.2 k h h' h'')⟩
theorem r_ok.lk {B : Nat} {σ τ σ' τ' : me_M} (h : r_ok B σ τ σ' τ') : r_lk B σ τ σ' τ' := ⟨h.1, fun a ha => h.2.1 a (by omega), fun k h4 h6 _ => h.2.2.1 k h4 h6, fun a ha => h.2.2.2.1 a (by omega), fun k _ h4 h6 => h.2.2.2.2 k h4 h6⟩
/-- one record -/
theorem sim_rec {B u w j : Nat} {σ τ : me_M} (hB : B ≤ 90000) (h : rl B σ τ) (eu : σ 0 12 = nI u) (ew : σ 0 11 = nI w) (hu : u < 2 ^ 31) (hw : w < 2 ^ 31) (hj : j < w) : r_lk B σ τ (k_copy (70 + 2 * ((u - w + j) % 12)) (70 + 2 * ((u - w + j) % 12) + 1) σ) (me_st (me_st (me_st (me_st τ 6 (((τ 15 j).toNatClampNeg) % 12) (τ 15 j)) 7 (((τ 15 j).toNatClampNeg) % 12) (τ 16 j)) 8 (((τ 15 j).toNatClampNeg) % 12) (τ 17 j)) 9 (((τ 15 j).toNatClampNeg) % 12) (τ 18 j)) := by
  have hW := h.2.2.2.2.2.2.2.2.1
  obtain ⟨n, w', m, e1, e2, e3, h1, h2, h3, h4, h5⟩ := hW
  have hn : n = u := (nI_eq (by omega) hu).mp (e1.symm.trans eu)
  have hw' : w' = w := (nI_eq (by omega) hw).mp (e2.symm.trans ew)
  subst hn
  subst hw'
  obtain ⟨r0, r1, r2, r3, r4⟩ := h5 j hj
  have ec : ((τ 15 j).toNatClampNeg) % 12 = (n - w' + j) % 12 := by rw [r1, nI_clamp (by omega)]
  rw [ec]
  have hr : (n - w' + j) % 12 < 12 := Nat.mod_lt _ (by omega)
  generalize hrr : (n - w' + j) % 12 = r at *
  have f1 := fun a b => s_copy (70 + 2 * r) (70 + 2 * r + 1) σ a b
  generalize k_copy (70 + 2 * r) (70 + 2 * r + 1) σ = σ' at f1 ⊢
  have f2 : ∀ a b, me_st (me_st (me_st (me_st τ 6 r (τ 15 j)) 7 r (τ 16 j)) 8 r (τ 17 j)) 9 r (τ 18 j) a b = if a = 6 ∧ b = r then τ 15 j else if a = 7 ∧ b = r then τ 16 j else if a = 8 ∧ b = r then τ 17 j else if a = 9 ∧ b = r then τ 18 j else τ a b := by
    intro a b
    simp only [me_st_eq]
    grind
  generalize me_st (me_st (me_st (me_st τ 6 r (τ 15 j)) 7 r (τ 16 j)) 8 r (τ 17 j)) 9 r (τ 18 j) = τ' at f2 ⊢
  have g1 : ∀ a, a ≠ 70 + 2 * r → σ' a = σ a := fun a ha => by funext b; rw [f1, if_neg (by omega)]
  have g2 : ∀ a, a < 6 ∨ 10 ≤ a → τ' a = τ a := fun a ha => by funext b; rw [f2, if_neg (by omega), if_neg (by omega), if_neg (by omega), if_neg (by omega)]
  obtain ⟨hD, hP, hX⟩ := h
  have hL : r_L σ' τ' := by
    intro q hq
    by_cases c : q = r
    · subst c
      rw [f1, f1, f1, f1, f2, f2, f2, f2]
      simp only [if_true, and_true, true_and]
      refine ⟨?_, ?_, ?_, ?_⟩
      · simpa using r0.trans r1.symm
      · simpa using r2
      · simpa using r3
      · simpa using r4
    · have d := hX.1 q hq
      rw [g1 (70 + 2 * q) (by omega), f2, f2, f2, f2]
      simp only [c, and_false, if_false]
      exact d
  have hI : r_I σ' := by
    intro a h7 h9
    by_cases c : a = 70 + 2 * r
    · subst c
      rw [f1, f1, if_pos (by omega), if_pos (by omega)]
      exact hX.2.1 (70 + 2 * r + 1) (by omega) (by omega)
    · rw [g1 a c]
      exact hX.2.1 a h7 h9
  refine ⟨⟨r_D_s (fun a _ _ => g1 a (by omega)) (r_D_t (fun a _ _ => g2 a (by omega)) hD), ?_, r_X_log hL hI (fun a _ => g1 a (by omega)) (fun q _ => g1 _ (by omega)) (fun k _ => by rw [g1 0 (by omega)]) (fun a _ => g2 a (by omega)) (fun k _ => by rw [g2 0 (by omega)]) hX⟩, fun a ha => g1 a (by omega), fun k _ _ _ => by rw [g1 0 (by omega)], fun a ha => g2 a (by omega), fun k _ _ _ => by rw [g2 0 (by omega)]⟩
  unfold r_P
  rw [g1 0 (by omega), g2 0 (by omega)]
  exact hP
/-- none waits any more -/
theorem sim_w0 {B : Nat} {σ τ : me_M} (h : rl B σ τ) : r_lk B σ τ (me_st σ 0 11 (nI 0)) (me_st τ 0 18 (nI 0)) := by
  have g1 : ∀ a, a ≠ 0 → me_st σ 0 11 (nI 0) a = σ a := fun a ha => me_st_c σ _ _ ha
  have g2 : ∀ k, k ≠ 11 → me_st σ 0 11 (nI 0) 0 k = σ 0 k := fun k hk => me_st_s σ 0 _ hk
  have g3 : ∀ a, a ≠ 0 → me_st τ 0 18 (nI 0) a = τ a := fun a ha => me_st_c τ _ _ ha
  have g4 : ∀ k, k ≠ 18 → me_st τ 0 18 (nI 0) 0 k = τ 0 k := fun k hk => me_st_s τ 0 _ hk
  have v1 : me_st σ 0 11 (nI 0) 0 11 = nI 0 := me_st_self _ _ _ _
  have v2 : me_st τ 0 18 (nI 0) 0 18 = nI 0 := me_st_self _ _ _ _
  generalize me_st σ 0 11 (nI 0) = σ' at *
  generalize me_st τ 0 18 (nI 0) = τ' at *
  obtain ⟨hD, ⟨p0, p1, p2, p3, p4⟩, hL, hI, hJ, hG, hE, hA, ⟨n, w, m, e1, e2, e3, h1, h2, h3, -, -⟩, q1, q2, q3, q4⟩ := h
  refine ⟨⟨r_D_s (fun a _ _ => g1 a (by omega)) (r_D_t (fun a _ _ => g3 a (by omega)) hD), ⟨?_, ?_, ?_, ?_, ?_⟩, ?_, ?_, ?_, ?_, ?_, ?_, ⟨n, 0, m, ?_, v1, ?_, by omega, h2, h3, fun _ => rfl, fun i hi => by omega⟩, ?_, ?_, ?_, ?_⟩, fun a ha => g1 a (by omega), fun k _ _ h9 => g2 k h9, fun a ha => g3 a (by omega), fun k h9 _ _ => g4 k h9⟩
  · rw [g2 4 (by omega), g4 24 (by omega)]; exact p0
  · rw [g2 6 (by omega), g4 26 (by omega)]; exact p1
  · rw [g2 7 (by omega), g4 27 (by omega)]; exact p2
  · rw [g2 8 (by omega), g4 28 (by omega)]; exact p3
  · rw [g2 14 (by omega), g4 23 (by omega)]; exact p4
  · intro r hr
    rw [g1 (70 + 2 * r) (by omega), g3 6 (by omega), g3 7 (by omega), g3 8 (by omega), g3 9 (by omega)]
    exact hL r hr
  · intro a h7 h9
    rw [g1 a (by omega)]
    exact hI a h7 h9
  · intro i hi
    rw [g3 15 (by omega), g3 16 (by omega), g3 17 (by omega)]
    exact hJ i hi
  · intro k hk
    rw [g1 (94 + 2 * k) (by omega), g1 (94 + 2 * k + 1) (by omega), g3 10 (by omega), g3 11 (by omega), g3 12 (by omega), g3 14 (by omega)]
    exact hG k hk
  · unfold r_E at hE ⊢
    have e94 : ∀ k, σ' (94 + 2 * k) = σ (94 + 2 * k) := fun k => g1 _ (by omega)
    have e95 : ∀ k, σ' (94 + 2 * k + 1) = σ (94 + 2 * k + 1) := fun k => g1 _ (by omega)
    simp only [e94, e95]
    exact hE
  · unfold r_A at hA ⊢
    have e94 : ∀ k, σ' (94 + 2 * k) = σ (94 + 2 * k) := fun k => g1 _ (by omega)
    simp only [e94, g3 10 (by omega), g3 13 (by omega), g2 13 (by omega), g4 16 (by omega)]
    exact hA
  · rw [g2 12 (by omega)]; exact e1
  · rw [g2 3 (by omega)]; exact e3
  · rw [g2 3 (by omega), g4 10 (by omega)]; exact q1
  · rw [g2 12 (by omega), g4 17 (by omega)]; exact q2
  · rw [g2 5 (by omega), g4 25 (by omega)]; exact q3
  · rw [v1, v2]
theorem sim_lw14 {B u w : Nat} (hB : B ≤ 90000) (hu : u < 2 ^ 31) (hw : w ≤ 12) (hwu : w ≤ u) : ∀ (n n' j : Nat) (σ τ σ' τ' : me_M) (r q : Int32), rl B σ τ → σ 0 12 = nI u → σ 0 11 = nI w → j ≤ w → w + 1 ≤ n + j → w + 1 ≤ n' + j → k_lw_14 n w u (u - w + j) σ = (r, σ') → m_lw_2 n' j τ = (q, τ') → (r = nI w ∧ q = nI 1 ∧ r_lk B σ τ σ' τ' ∧ σ' 0 11 = nI 0) ∨ (r = -3 ∧ q = nI 0 ∧ r_f B σ' τ') := by
  intro n
  induction n with
  | zero => intro n' j σ τ σ' τ' r q h _ _ h1 h2; omega
  | succ n ih =>
    intro n' j σ τ σ' τ' r q h eu ew h1 h2 h3 e1 e2
    obtain ⟨n', rfl⟩ : ∃ z, n' = z + 1 := ⟨n' - 1, by omega⟩
    have e : (nI u ≤ nI (u - w + j)) ↔ (u ≤ u - w + j) := nI_leI (by omega) (by omega)
    have et : τ 0 18 = nI w := h.2.2.2.2.2.2.2.2.2.2.2.2.symm.trans ew
    have e' : (nI ((τ 0 18).toNatClampNeg) ≤ nI j) ↔ (w ≤ j) := by rw [et, nI_clamp (by omega)]; exact nI_leI (by omega) (by omega)
    simp only [k_lw_14, e] at e1
    simp only [m_lw_2, e'] at e2
    by_cases c : w ≤ j
    · rw [if_pos (by omega)] at e1
      rw [if_pos c] at e2
      cases e1
      cases e2
      exact Or.inl ⟨rfl, rfl, sim_w0 h, me_st_self _ _ _ _⟩
    · rw [if_neg (by omega)] at e1
      rw [if_neg c] at e2
      rcases ep : k_ph σ with ⟨r1, σ1⟩
      rcases em : m_mw τ with ⟨q1, τ1⟩
      rw [ep] at e1
      rw [em] at e2
      dsimp only at e1 e2
      rcases sim_ph h ep em with ⟨rfl, rfl, hk1⟩ | ⟨rfl, rfl, rfl, hf⟩
      · have hk1 := r_ok.ph hk1
        rw [if_neg (by decide)] at e1 e2
        have eu1 : σ1 0 12 = nI u := (hk1.2.2.1 12 (by omega) (by omega)).trans eu
        have ew1 : σ1 0 11 = nI w := (hk1.2.2.1 11 (by omega) (by omega)).trans ew
        have s1 := sim_rec (j := j) hB hk1.1 eu1 ew1 hu (by omega) (by omega)
        have s2 := hk1.lk.tr s1
        have x1 : me_st τ1 6 (((τ1 15 j).toNatClampNeg) % 12) (τ1 15 j) 16 j = τ1 16 j := by rw [me_st_c _ _ _ (by omega)]
        have x2 : me_st (me_st τ1 6 (((τ1 15 j).toNatClampNeg) % 12) (τ1 15 j)) 7 (((τ1 15 j).toNatClampNeg) % 12) (τ1 16 j) 17 j = τ1 17 j := by rw [me_st_c _ _ _ (by omega), me_st_c _ _ _ (by omega)]
        have x3 : me_st (me_st (me_st τ1 6 (((τ1 15 j).toNatClampNeg) % 12) (τ1 15 j)) 7 (((τ1 15 j).toNatClampNeg) % 12) (τ1 16 j)) 8 (((τ1 15 j).toNatClampNeg) % 12) (τ1 17 j) 18 j = τ1 18 j := by rw [me_st_c _ _ _ (by omega), me_st_c _ _ _ (by omega), me_st_c _ _ _ (by omega)]
        rw [x1, x2, x3] at e2
        have c0 := s_copy (70 + 2 * ((u - w + j) % 12)) (70 + 2 * ((u - w + j) % 12) + 1) σ1 0
        rcases ih n' (j + 1) _ _ σ' τ' r q s1.1 (by rw [c0, if_neg (by omega)]; exact eu1) (by rw [c0, if_neg (by omega)]; exact ew1) (by omega) (by omega) (by omega) e1 e2 with ⟨a1, a2, a3, a4⟩ | hf
        · exact Or.inl ⟨a1, a2, s2.tr a3, a4⟩
        · exact Or.inr hf
      · rw [if_pos nI_0] at e1 e2
        cases e1
        cases e2
        exact Or.inr ⟨rfl, rfl, hf⟩
theorem sim_lw {B : Nat} {σ τ σ' τ' : me_M} {r q : Int32} (hB : B ≤ 90000) (h : rl B σ τ) (e1 : k_lw σ = (r, σ')) (e2 : m_lw τ = (q, τ')) : (∃ w, w ≤ 12 ∧ σ 0 11 = nI w ∧ r = nI w ∧ q = nI 1 ∧ r_lk B σ τ σ' τ' ∧ σ' 0 11 = nI 0) ∨ (r = -3 ∧ q = nI 0 ∧ r_f B σ' τ') := by
  obtain ⟨n, w, m, x1, x2, x3, h1, h2, h3, h4, h5⟩ := h.2.2.2.2.2.2.2.2.1
  simp only [k_lw, x1, x2] at e1
  rw [nI_clamp (by omega), nI_clamp (by omega)] at e1
  unfold m_lw at e2
  rcases sim_lw14 hB (u := n) (w := w) (by omega) (by omega) (by omega) (w + 1) 14 0 σ τ σ' τ' r q h x1 x2 (by omega) (by omega) (by omega) e1 e2 with ⟨a1, a2, a3, a4⟩ | hf
  · exact Or.inl ⟨w, by omega, x2, a1, a2, a3, a4⟩
  · exact Or.inr hf
