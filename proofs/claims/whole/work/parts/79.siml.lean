/-! SIMULATION 12: recover -/
theorem whole_step {n j i : Nat} {s : me_M} (hi : i < 4) : k_whole_2 (n + 1) j i s = if s (6 + 4 * j + 2) i = s (6 + 4 * j + 2) 0 ∧ s (6 + 4 * j + 3) i = s (6 + 4 * j + 3) 0 then k_whole_2 n j (i + 1) s else nI 0 := by
  simp only [k_whole_2]
  rw [if_neg (nI_ge hi (by omega))]
  by_cases c1 : s (6 + 4 * j + 2) i = s (6 + 4 * j + 2) 0
  · rw [if_pos c1]
    by_cases c2 : s (6 + 4 * j + 3) i = s (6 + 4 * j + 3) 0
    · rw [if_pos c2, if_pos ⟨c1, c2⟩]
    · rw [if_neg c2, if_neg (fun q => c2 q.2)]
  · rw [if_neg c1, if_neg (fun q => c1 q.1)]
theorem s_whole (j : Nat) (s : me_M) : k_whole j s = if (s (6 + 4 * j + 2) 1 = s (6 + 4 * j + 2) 0 ∧ s (6 + 4 * j + 3) 1 = s (6 + 4 * j + 3) 0) ∧ (s (6 + 4 * j + 2) 2 = s (6 + 4 * j + 2) 0 ∧ s (6 + 4 * j + 3) 2 = s (6 + 4 * j + 3) 0) ∧ (s (6 + 4 * j + 2) 3 = s (6 + 4 * j + 2) 0 ∧ s (6 + 4 * j + 3) 3 = s (6 + 4 * j + 3) 0) then nI 1 else nI 0 := by
  unfold k_whole
  rw [whole_step (by omega), whole_step (by omega), whole_step (by omega)]
  have e : k_whole_2 1 j (1 + 1 + 1 + 1) s = nI 1 := by
    simp only [k_whole_2]
    rw [if_pos (by decide)]
  rw [e]
  by_cases c1 : (s (6 + 4 * j + 2) 1 = s (6 + 4 * j + 2) 0 ∧ s (6 + 4 * j + 3) 1 = s (6 + 4 * j + 3) 0)
  · rw [if_pos c1]
    by_cases c2 : (s (6 + 4 * j + 2) 2 = s (6 + 4 * j + 2) 0 ∧ s (6 + 4 * j + 3) 2 = s (6 + 4 * j + 3) 0)
    · rw [if_pos (show s (6 + 4 * j + 2) (1 + 1) = s (6 + 4 * j + 2) 0 ∧ s (6 + 4 * j + 3) (1 + 1) = s (6 + 4 * j + 3) 0 from c2)]
      by_cases c3 : (s (6 + 4 * j + 2) 3 = s (6 + 4 * j + 2) 0 ∧ s (6 + 4 * j + 3) 3 = s (6 + 4 * j + 3) 0)
      · rw [if_pos (show s (6 + 4 * j + 2) (1 + 1 + 1) = s (6 + 4 * j + 2) 0 ∧ s (6 + 4 * j + 3) (1 + 1 + 1) = s (6 + 4 * j + 3) 0 from c3), if_pos ⟨c1, c2, c3⟩]
      · rw [if_neg (show ¬ (s (6 + 4 * j + 2) (1 + 1 + 1) = s (6 + 4 * j + 2) 0 ∧ s (6 + 4 * j + 3) (1 + 1 + 1) = s (6 + 4 * j + 3) 0) from c3), if_neg (fun q => c3 q.2.2)]
    · rw [if_neg (show ¬ (s (6 + 4 * j + 2) (1 + 1) = s (6 + 4 * j + 2) 0 ∧ s (6 + 4 * j + 3) (1 + 1) = s (6 + 4 * j + 3) 0) from c2), if_neg (fun q => c2 q.2.1)]
  · rw [if_neg c1, if_neg (fun q => c1 q.1)]
theorem sim_wholeh {B p : Nat} {σ τ : me_M} (h : rl B σ τ) (hp : p < 12) : k_whole p σ = m_ihw p τ := by
  rw [s_whole]
  obtain ⟨d1, -⟩ := h.1.1 p hp
  have e : ∀ i, i < 4 → σ (6 + 4 * p + 2) i = τ 1 (4 * p + i) ∧ σ (6 + 4 * p + 3) i = nI p := d1
  have e0 : σ (6 + 4 * p + 2) 0 = τ 1 (4 * p) := (e 0 (by omega)).1
  unfold m_ihw
  by_cases c1 : τ 1 (4 * p) = τ 1 (4 * p + 1)
  · rw [if_pos c1]
    by_cases c2 : τ 1 (4 * p) = τ 1 (4 * p + 2)
    · rw [if_pos c2]
      by_cases c3 : τ 1 (4 * p) = τ 1 (4 * p + 3)
      · rw [if_pos c3, if_pos]
        have f : ∀ i, i < 4 → σ (6 + 4 * p + 3) i = σ (6 + 4 * p + 3) 0 := fun i hi => by rw [(e i hi).2, (e 0 (by omega)).2]
        exact ⟨⟨by rw [(e 1 (by omega)).1, e0]; exact c1.symm, f 1 (by omega)⟩, ⟨by rw [(e 2 (by omega)).1, e0]; exact c2.symm, f 2 (by omega)⟩, ⟨by rw [(e 3 (by omega)).1, e0]; exact c3.symm, f 3 (by omega)⟩⟩
      · rw [if_neg c3, if_neg]
        intro q
        exact c3 (by rw [← (e 3 (by omega)).1, ← e0]; exact q.2.2.1.symm)
    · rw [if_neg c2, if_neg]
      intro q
      exact c2 (by rw [← (e 2 (by omega)).1, ← e0]; exact q.2.1.1.symm)
  · rw [if_neg c1, if_neg]
    intro q
    exact c1 (by rw [← (e 1 (by omega)).1, ← e0]; exact q.1.1.symm)
theorem isw_step {n a i : Nat} {v : Int32} {s : me_M} (hi : i < 4) : m_isw_4 (n + 1) a v i s = m_isw_4 n a (if ¬ v = 0 ∧ s 3 (4 * a + i) = s 3 (4 * a) ∧ s 4 (4 * a + i) = s 4 (4 * a) then nI 1 else nI 0) (i + 1) s := by
  simp only [m_isw_4]
  rw [if_neg (nI_ge hi (by omega))]
  by_cases c0 : v = 0
  · rw [if_pos c0, if_neg (fun q => q.1 c0)]
  · rw [if_neg c0]
    by_cases c1 : s 3 (4 * a + i) = s 3 (4 * a)
    · rw [if_pos c1]
      by_cases c2 : s 4 (4 * a + i) = s 4 (4 * a)
      · rw [if_pos c2, if_pos ⟨c0, c1, c2⟩]
      · rw [if_neg c2, if_neg (fun q => c2 q.2.2)]
    · rw [if_neg c1, if_neg (fun q => c1 q.2.1)]
theorem sim_wholes {B t : Nat} {σ τ : me_M} (h : rl B σ τ) (ht : t < 4) : k_whole (12 + t) σ = m_isw t τ := by
  rw [s_whole]
  obtain ⟨d1, -⟩ := h.1.2 t ht
  have e : ∀ i, i < 4 → σ (6 + 4 * (12 + t) + 2) i = τ 3 (4 * t + i) ∧ σ (6 + 4 * (12 + t) + 3) i = τ 4 (4 * t + i) := d1
  have e0 : σ (6 + 4 * (12 + t) + 2) 0 = τ 3 (4 * t) := (e 0 (by omega)).1
  have e0' : σ (6 + 4 * (12 + t) + 3) 0 = τ 4 (4 * t) := (e 0 (by omega)).2
  unfold m_isw
  rw [isw_step (by omega), isw_step (by omega), isw_step (by omega)]
  have ee : ∀ v : Int32, m_isw_4 1 t v (1 + 1 + 1 + 1) τ = v := fun v => by
    simp only [m_isw_4]
    rw [if_pos (by decide)]
  rw [ee]
  have hc : ∀ P : Prop, [Decidable P] → ((¬ (if P then nI 1 else nI 0) = 0) ↔ P) := by
    intro P _
    by_cases c : P
    · rw [if_pos c]; exact ⟨fun _ => c, fun _ => bad1⟩
    · rw [if_neg c]; exact ⟨fun q => absurd nI_0 q, fun q => absurd q c⟩
  simp only [hc]
  have e1 := e 1 (by omega)
  have e2 := e 2 (by omega)
  have e3 := e 3 (by omega)
  rw [e1.1, e1.2, e2.1, e2.2, e3.1, e3.2, e0, e0']
  congr 1
  apply propext
  constructor
  · rintro ⟨q1, q2, q3⟩
    exact ⟨⟨⟨bad1, q1⟩, q2⟩, q3⟩
  · rintro ⟨⟨⟨-, q1⟩, q2⟩, q3⟩
    exact ⟨q1, q2, q3⟩
theorem sim_sm4 {B p : Nat} {σ τ : me_M} (h : rl B σ τ) : ∀ (n i : Nat) (v : Int32), i ≤ 4 → 5 ≤ n + i → (v = -1 ∨ ∃ j, j < 4 ∧ v = nI j) → k_sm_4 n (nI p) v i σ = m_mend_23 n p v i τ ∧ (k_sm_4 n (nI p) v i σ = -1 ∨ ∃ j, j < 4 ∧ k_sm_4 n (nI p) v i σ = nI j) := by
  intro n
  induction n with
  | zero => intro i v h1 h2; omega
  | succ n ih =>
    intro i v h1 h2 hv
    have e : nI 4 ≤ nI i ↔ 4 ≤ i := nI_leI (by omega) (by omega)
    simp only [k_sm_4, m_mend_23, e]
    by_cases c : 4 ≤ i
    · rw [if_pos c, if_pos c]
      exact ⟨rfl, hv⟩
    · rw [if_neg c, if_neg c, ← sim_wholes h (by omega)]
      have x1 : nI 0 = (0 : Int32) := nI_0
      have x2 := bad1
      obtain ⟨d1, -⟩ := h.1.2 i (by omega)
      have s0 : σ (6 + 4 * (12 + i) + 2) 0 = τ 3 (4 * i) := (d1 0 (by omega)).1
      have g0 : σ (6 + 4 * (12 + i) + 3) 0 = τ 4 (4 * i) := (d1 0 (by omega)).2
      have skip := ih (i + 1) v (by omega) (by omega) hv
      have take := ih (i + 1) (nI i) (by omega) (by omega) (Or.inr ⟨i, by omega, rfl⟩)
      rw [if_pos x1, if_neg x2, s0, g0]
      by_cases c1 : k_whole (12 + i) σ = 0
      · rw [if_pos c1, if_pos c1]
        exact skip
      · rw [if_neg c1, if_neg c1]
        by_cases c2 : τ 4 (4 * i) = nI p
        · rw [if_pos c2, if_pos c2]
          by_cases c3 : v = -1
          · rw [if_pos c3, if_pos c3]
            exact take
          · rw [if_neg c3, if_neg c3]
            obtain ⟨j, hj, rfl⟩ : ∃ j, j < 4 ∧ v = nI j := by
              rcases hv with q | q
              · exact absurd q c3
              · exact q
            have sj : σ (6 + 4 * (12 + j) + 2) 0 = τ 3 (4 * j) := ((h.1.2 j hj).1 0 (by omega)).1
            rw [nI_clamp (by omega), sj]
            by_cases c4 : τ 3 (4 * i) ≤ τ 3 (4 * j)
            · rw [if_pos c4, if_pos c4]
              exact skip
            · rw [if_neg c4, if_neg c4]
              exact take
        · rw [if_neg c2, if_neg c2]
          exact skip
theorem sim_mended {B : Nat} {σ τ : me_M} (h : rl B σ τ) : rl B (me_st σ 0 8 (σ 0 8 + nI 1)) (me_st τ 0 28 (τ 0 28 + nI 1)) := by
  have g1 : ∀ x, x ≠ 0 → me_st σ 0 8 (σ 0 8 + nI 1) x = σ x := fun x hx => me_st_c σ _ _ hx
  have g2 : ∀ k, k ≠ 8 → me_st σ 0 8 (σ 0 8 + nI 1) 0 k = σ 0 k := fun k hk => me_st_s σ 0 _ hk
  have g3 : ∀ x, x ≠ 0 → me_st τ 0 28 (τ 0 28 + nI 1) x = τ x := fun x hx => me_st_c τ _ _ hx
  have g4 : ∀ k, k ≠ 28 → me_st τ 0 28 (τ 0 28 + nI 1) 0 k = τ 0 k := fun k hk => me_st_s τ 0 _ hk
  have v : me_st σ 0 8 (σ 0 8 + nI 1) 0 8 = me_st τ 0 28 (τ 0 28 + nI 1) 0 28 := by rw [me_st_self, me_st_self, h.2.1.2.2.2.1]
  generalize me_st σ 0 8 (σ 0 8 + nI 1) = σ' at *
  generalize me_st τ 0 28 (τ 0 28 + nI 1) = τ' at *
  obtain ⟨hD, ⟨p0, p1, p2, p3, p4⟩, hX⟩ := h
  refine ⟨r_D_s (fun x _ _ => g1 x (by omega)) (r_D_t (fun x _ _ => g3 x (by omega)) hD), ⟨?_, ?_, ?_, v, ?_⟩, r_X_of (fun x hx => g1 x (by omega)) (fun k hk => g2 k (by omega)) (fun x hx => g3 x (by omega)) (fun k hk => g4 k (by omega)) hX⟩
  · rw [g2 4 (by omega), g4 24 (by omega)]; exact p0
  · rw [g2 6 (by omega), g4 26 (by omega)]; exact p1
  · rw [g2 7 (by omega), g4 27 (by omega)]; exact p2
  · rw [g2 14 (by omega), g4 23 (by omega)]; exact p4
theorem sim_mend2 {B : Nat} : ∀ (n i : Nat) (σ τ σ' τ' : me_M) (r q : Int32), rl B σ τ → i ≤ 12 → 13 ≤ n + i → k_mend_2 n i σ = (r, σ') → m_mend_2 n i τ = (q, τ') → (r = nI 1 ∧ q = nI 1 ∧ rl B σ' τ') ∨ (r = nI 0 ∧ q = nI 0 ∧ r_f B σ' τ') := by
  intro n
  induction n with
  | zero => intro i σ τ σ' τ' r q h h1 h2; omega
  | succ n ih =>
    intro i σ τ σ' τ' r q h h1 h2 e1 e2
    have e : nI 12 ≤ nI i ↔ 12 ≤ i := nI_leI (by omega) (by omega)
    simp only [k_mend_2, e] at e1
    simp only [m_mend_2, e] at e2
    by_cases c : 12 ≤ i
    · rw [if_pos c] at e1 e2
      cases e1
      cases e2
      exact Or.inl ⟨rfl, rfl, h⟩
    · rw [if_neg c] at e1 e2
      rw [← sim_wholeh h (by omega)] at e2
      by_cases c1 : k_whole i σ = 0
      · rw [if_pos c1] at e1 e2
        obtain ⟨s1, s2⟩ := sim_sm4 (p := i) h 5 0 (-1) (by omega) (by omega) (Or.inl rfl)
        have s1 : k_sm (nI i) σ = m_mend_23 5 i (-1) 0 τ := s1
        have s2 : k_sm (nI i) σ = -1 ∨ ∃ j, j < 4 ∧ k_sm (nI i) σ = nI j := s2
        rw [← s1] at e2
        by_cases c2 : k_sm (nI i) σ = -1
        · rw [if_pos c2] at e1 e2
          exact ih (i + 1) σ τ σ' τ' r q h (by omega) (by omega) e1 e2
        · rw [if_neg c2] at e1 e2
          obtain ⟨v, hv, ev⟩ : ∃ j, j < 4 ∧ k_sm (nI i) σ = nI j := by
            rcases s2 with q | q
            · exact absurd q c2
            · exact q
          rw [ev, nI_clamp (by omega)] at e1 e2
          rcases ew : k_wp i (nI i) (σ (6 + 4 * (12 + v) + 2) 0) (6 + 4 * (12 + v) + 1) σ with ⟨r1, σ1⟩
          rcases em : m_wh i (τ 3 (4 * v)) v (nI 0) τ with ⟨q1, τ1⟩
          rw [ew] at e1
          rw [em] at e2
          dsimp only at e1 e2
          rcases sim_whs h (by omega) hv ew em with ⟨rfl, rfl, hk⟩ | ⟨rfl, rfl, hf⟩
          · rw [if_neg bad1] at e1 e2
            exact ih (i + 1) _ _ σ' τ' r q (sim_mended hk.1) (by omega) (by omega) e1 e2
          · rw [if_pos nI_0] at e1 e2
            cases e1
            cases e2
            exact Or.inr ⟨rfl, rfl, hf⟩
      · rw [if_neg c1] at e1 e2
        exact ih (i + 1) σ τ σ' τ' r q h (by omega) (by omega) e1 e2
/-- a logged word is done again -/
theorem sim_cwr {B k t i : Nat} {v : Int32} {σ τ : me_M} (h : rl B σ τ) (hk : k < 4) (hp : ¬ τ 10 k = -1) (ht : t < 16) : rl B (k_cw k t v (nI i) σ) (me_st (me_st (me_st τ 14 (16 * k + t) v) 11 k (nI i)) 12 k (nI 1)) := by
  have f1 := fun a b => s_cw k t v (nI i) σ a b
  have f2 : ∀ a b, me_st (me_st (me_st τ 14 (16 * k + t) v) 11 k (nI i)) 12 k (nI 1) a b = if a = 14 ∧ b = 16 * k + t then v else if a = 11 ∧ b = k then nI i else if a = 12 ∧ b = k then 1 else τ a b := by
    intro a b
    have e1 : nI 1 = (1 : Int32) := rfl
    simp only [me_st_eq]
    grind
  generalize k_cw k t v (nI i) σ = σ' at f1 ⊢
  generalize me_st (me_st (me_st τ 14 (16 * k + t) v) 11 k (nI i)) 12 k (nI 1) = τ' at f2 ⊢
  have c1 : ∀ a, a ≠ 94 + 2 * k → a ≠ 94 + 2 * k + 1 → σ' a = σ a := fun a h1 h2 => by funext b; rw [f1, if_neg (by omega), if_neg (by omega), if_neg (by omega)]
  have d1 : ∀ a, a ≠ 11 → a ≠ 12 → a ≠ 14 → τ' a = τ a := fun a _ _ _ => by funext b; rw [f2, if_neg (by omega), if_neg (by omega), if_neg (by omega)]
  have fk : ∀ b, b ≠ 2 → b ≠ 3 → σ' (94 + 2 * k) b = σ (94 + 2 * k) b := fun b _ _ => by rw [f1, if_neg (by omega), if_neg (by omega), if_neg (by omega)]
  have e1 : ∀ l, σ' (94 + 2 * l) 1 = σ (94 + 2 * l) 1 := fun l => by
    by_cases c : l = k
    · rw [c]; exact fk 1 (by omega) (by omega)
    · rw [c1 _ (by omega) (by omega)]
  have e4 : ∀ l, σ' (94 + 2 * l) 4 = σ (94 + 2 * l) 4 := fun l => by
    by_cases c : l = k
    · rw [c]; exact fk 4 (by omega) (by omega)
    · rw [c1 _ (by omega) (by omega)]
  have s0 : σ' 0 = σ 0 := c1 0 (by omega) (by omega)
  have t0 : τ' 0 = τ 0 := d1 0 (by omega) (by omega) (by omega)
  have t10 : τ' 10 = τ 10 := d1 10 (by omega) (by omega) (by omega)
  have t13 : τ' 13 = τ 13 := d1 13 (by omega) (by omega) (by omega)
  obtain ⟨hD, hP, hL, hI, hJ, hG, hE, hA, hW, hQ⟩ := h
  obtain ⟨g1, g2, g3⟩ := hG k hk
  refine ⟨r_D_s (fun a _ _ => c1 a (by omega) (by omega)) (r_D_t (fun a _ _ => d1 a (by omega) (by omega) (by omega)) hD), ?_, ?_, ?_, ?_, ?_, ⟨?_, ?_⟩, ?_, ?_, ?_⟩
  · unfold r_P
    rw [s0, t0]
    exact hP
  · intro r hr
    rw [c1 (70 + 2 * r) (by omega) (by omega), d1 6 (by omega) (by omega) (by omega), d1 7 (by omega) (by omega) (by omega), d1 8 (by omega) (by omega) (by omega), d1 9 (by omega) (by omega) (by omega)]
    exact hL r hr
  · intro a h7 h9
    rw [c1 a (by omega) (by omega)]
    exact hI a h7 h9
  · intro j hj
    rw [d1 15 (by omega) (by omega) (by omega), d1 16 (by omega) (by omega) (by omega), d1 17 (by omega) (by omega) (by omega)]
    exact hJ j hj
  · intro l hl
    rw [e1 l, t10]
    by_cases c : l = k
    · subst c
      refine ⟨g1, ?_, fun _ => ⟨?_, fun x hx => ?_⟩⟩
      · rw [f1, if_neg (by omega), if_neg (by omega), if_pos ⟨rfl, rfl⟩, f2, if_neg (by omega), if_neg (by omega), if_pos ⟨rfl, rfl⟩]
      · rw [f1, if_neg (by omega), if_pos ⟨rfl, rfl⟩, f2, if_neg (by omega), if_pos ⟨rfl, rfl⟩]
      · by_cases cx : x = t
        · subst cx
          rw [f1, if_pos ⟨rfl, rfl⟩, f2, if_pos ⟨rfl, rfl⟩]
        · rw [f1, if_neg (by omega), if_neg (by omega), if_neg (by omega), f2, if_neg (by omega), if_neg (by omega), if_neg (by omega)]
          exact (g3 hp).2 x hx
    · obtain ⟨y1, y2, y3⟩ := hG l hl
      rw [c1 (94 + 2 * l) (by omega) (by omega), c1 (94 + 2 * l + 1) (by omega) (by omega)]
      have e : ∀ a, a = 11 ∨ a = 12 → τ' a l = τ a l := fun a ha => by rw [f2, if_neg (by omega), if_neg (by omega), if_neg (by omega)]
      rw [e 11 (by omega), e 12 (by omega)]
      refine ⟨y1, y2, fun hq => ⟨(y3 hq).1, fun x hx => ?_⟩⟩
      rw [f2, if_neg (by omega), if_neg (by omega), if_neg (by omega)]
      exact (y3 hq).2 x hx
  · intro l hl
    rw [e1 l]
    by_cases c : l = k
    · subst c
      exact ⟨fun q => absurd (g1.symm.trans q) hp, (hE.1 l hl).2⟩
    · rw [c1 (94 + 2 * l) (by omega) (by omega), c1 (94 + 2 * l + 1) (by omega) (by omega)]
      exact hE.1 l hl
  · intro l l' hl hl'
    rw [e1 l, e1 l']
    exact hE.2 l l' hl hl'
  · unfold r_A at hA ⊢
    rw [s0, t0, t10, t13]
    simp only [e4]
    exact hA
  · unfold r_W at hW ⊢
    have e71 : ∀ z, σ' (70 + 2 * (z % 12) + 1) = σ (70 + 2 * (z % 12) + 1) := fun z => c1 _ (by omega) (by omega)
    rw [s0]
    simp only [e71, d1 15 (by omega) (by omega) (by omega), d1 16 (by omega) (by omega) (by omega), d1 17 (by omega) (by omega) (by omega), d1 18 (by omega) (by omega) (by omega)]
    exact hW
  · unfold r_Q
    rw [s0, t0]
    exact hQ
/-- all is up again -/
theorem sim_up {B i m : Nat} {σ τ : me_M} (h : rl B σ τ) (em : σ 0 3 = nI m) (hm : m < 2 ^ 30) (hB : B ≤ 89000) (h1 : m ≤ i) (h2 : i ≤ m + 12) (hw : σ 0 11 = nI 0) : rl (B + 12) (me_st (me_st σ 0 12 (nI i)) 0 5 (nI 0)) (me_st (me_st τ 0 17 (nI i)) 0 25 (nI 0)) := by
  have f1 : ∀ a b, me_st (me_st σ 0 12 (nI i)) 0 5 (nI 0) a b = if a = 0 ∧ b = 5 then nI 0 else if a = 0 ∧ b = 12 then nI i else σ a b := fun a b => by simp only [me_st_eq]
  have f2 : ∀ a b, me_st (me_st τ 0 17 (nI i)) 0 25 (nI 0) a b = if a = 0 ∧ b = 25 then nI 0 else if a = 0 ∧ b = 17 then nI i else τ a b := fun a b => by simp only [me_st_eq]
  generalize me_st (me_st σ 0 12 (nI i)) 0 5 (nI 0) = σ' at f1 ⊢
  generalize me_st (me_st τ 0 17 (nI i)) 0 25 (nI 0) = τ' at f2 ⊢
  have g1 : ∀ a, a ≠ 0 → σ' a = σ a := fun a h0 => by funext b; rw [f1, if_neg (by omega), if_neg (by omega)]
  have g2 : ∀ b, b ≠ 5 → b ≠ 12 → σ' 0 b = σ 0 b := fun b _ _ => by rw [f1, if_neg (by omega), if_neg (by omega)]
  have g3 : ∀ a, a ≠ 0 → τ' a = τ a := fun a h0 => by funext b; rw [f2, if_neg (by omega), if_neg (by omega)]
  have g4 : ∀ b, b ≠ 25 → b ≠ 17 → τ' 0 b = τ 0 b := fun b _ _ => by rw [f2, if_neg (by omega), if_neg (by omega)]
  obtain ⟨hD, ⟨p0, p1, p2, p3, p4⟩, hL, hI, hJ, hG, hE, ⟨α, β, ca, cb, a1, a2, a3, a4, a5, a6⟩, ⟨n, w, m', x1, x2, x3, y1, y2, y3, -, -⟩, q1, q2, q3, q4⟩ := h
  obtain rfl : m' = m := (nI_eq (by omega) (by omega)).mp (x3.symm.trans em)
  refine ⟨r_D_s (fun a _ _ => g1 a (by omega)) (r_D_t (fun a _ _ => g3 a (by omega)) hD), ⟨?_, ?_, ?_, ?_, ?_⟩, ?_, ?_, ?_, ?_, ?_, ⟨α, β, ca, cb, ?_, ?_, by omega, by omega, fun l hl => ?_, fun l l' hl hl' => ?_⟩, ⟨i, 0, m', ?_, ?_, ?_, by omega, by omega, by omega, fun _ => rfl, fun j hj => by omega⟩, ?_, ?_, ?_, ?_⟩
  · rw [g2 4 (by omega) (by omega), g4 24 (by omega) (by omega)]; exact p0
  · rw [g2 6 (by omega) (by omega), g4 26 (by omega) (by omega)]; exact p1
  · rw [g2 7 (by omega) (by omega), g4 27 (by omega) (by omega)]; exact p2
  · rw [g2 8 (by omega) (by omega), g4 28 (by omega) (by omega)]; exact p3
  · rw [g2 14 (by omega) (by omega), g4 23 (by omega) (by omega)]; exact p4
  · intro r hr
    rw [g1 (70 + 2 * r) (by omega), g3 6 (by omega), g3 7 (by omega), g3 8 (by omega), g3 9 (by omega)]
    exact hL r hr
  · intro a h7 h9
    rw [g1 a (by omega)]
    exact hI a h7 h9
  · intro j hj
    rw [g3 15 (by omega), g3 16 (by omega), g3 17 (by omega)]
    exact hJ j hj
  · intro k hk
    rw [g1 (94 + 2 * k) (by omega), g1 (94 + 2 * k + 1) (by omega), g3 10 (by omega), g3 11 (by omega), g3 12 (by omega), g3 14 (by omega)]
    exact hG k hk
  · unfold r_E at hE ⊢
    have e94 : ∀ k, σ' (94 + 2 * k) = σ (94 + 2 * k) := fun k => g1 _ (by omega)
    have e95 : ∀ k, σ' (94 + 2 * k + 1) = σ (94 + 2 * k + 1) := fun k => g1 _ (by omega)
    simp only [e94, e95]
    exact hE
  · rw [g2 13 (by omega) (by omega)]; exact a1
  · rw [g4 16 (by omega) (by omega)]; exact a2
  · rw [g1 (94 + 2 * l) (by omega), g3 10 (by omega), g3 13 (by omega)]; exact a5 l hl
  · rw [g3 10 (by omega)]; exact a6 l l' hl hl'
  · rw [f1, if_neg (by omega), if_pos ⟨rfl, rfl⟩]
  · rw [g2 11 (by omega) (by omega)]; exact hw
  · rw [g2 3 (by omega) (by omega)]; exact x3
  · rw [g2 3 (by omega) (by omega), g4 10 (by omega) (by omega)]; exact q1
  · rw [f1, if_neg (by omega), if_pos ⟨rfl, rfl⟩, f2, if_neg (by omega), if_pos ⟨rfl, rfl⟩]
  · rw [f1, if_pos ⟨rfl, rfl⟩, f2, if_pos ⟨rfl, rfl⟩]
  · rw [g2 11 (by omega) (by omega), g4 18 (by omega) (by omega)]; exact q4
theorem sim_redo13 {m0 : Nat} (hm0 : m0 < 90000) : ∀ (n n' B i : Nat) (σ τ σ' : me_M) (r : Int32), B + (m0 + 12 - i) ≤ 88000 → rl B σ τ → m0 ≤ i → i ≤ m0 + 12 → m0 + 13 ≤ n + i → m0 + 14 ≤ n' + i → τ 0 18 = nI 0 → σ 0 3 = nI m0 → (∀ j, m0 ≤ j → j < i → τ 6 (j % 12) = nI j) → k_redo_13 n (m0 + 12) i σ = (r, σ') → (∃ i' τ', m0 ≤ i' ∧ i' ≤ m0 + 12 ∧ r = nI i' ∧ rl (B + (m0 + 12 - i)) σ' τ' ∧ σ' 0 3 = nI m0 ∧ σ' 0 11 = nI 0 ∧ τ' 0 0 = τ 0 0 ∧ m_rec_42 n' i τ = (nI i' - nI 1, me_st (me_st τ' 0 17 (nI i')) 0 25 (nI 0))) ∨ (∃ τ', r = -3 ∧ r_f (B + (m0 + 12 - i)) σ' τ' ∧ τ' 0 0 = τ 0 0 ∧ m_rec_42 n' i τ = (-3, τ')) := by
  intro n
  induction n with
  | zero => intro n' B i σ τ σ' r hB h h1 h2 h3; omega
  | succ n ih =>
    intro n' B i σ τ σ' r hB h h1 h2 h3 h4 hw em hlog e1
    obtain ⟨n', rfl⟩ : ∃ z, n' = z + 1 := ⟨n' - 1, by omega⟩
    have e : nI (m0 + 12) ≤ nI i ↔ m0 + 12 ≤ i := nI_leI (by omega) (by omega)
    simp only [k_redo_13, e] at e1
    simp only [m_rec_42]
    have hw' : σ 0 11 = nI 0 := h.2.2.2.2.2.2.2.2.2.2.2.2.trans hw
    have hr12 : i % 12 < 12 := Nat.mod_lt _ (by omega)
    obtain ⟨l1, l2, l3, l4⟩ := h.2.2.1 (i % 12) hr12
    by_cases c1 : τ 6 (i % 12) = nI i
    · have hlt := pu_rlt (s := τ) (m0 := m0) (i := i) ⟨h1, h2, by omega⟩ hlog c1
      rw [if_neg (by omega), if_pos (l1.trans c1)] at e1
      rw [if_pos c1]
      have hv := (h.2.2.2.1 (70 + 2 * (i % 12)) (by omega) (by omega)).1
      obtain ⟨g, hg, eg⟩ := vp_in_of hv (by omega)
      rw [eg, nI_clamp (by omega)] at e1
      rw [← l2, eg, nI_clamp (by omega)]
      rcases eb : k_br g σ with ⟨r1, σ1⟩
      rcases emm : m_br g τ with ⟨q1, τ1⟩
      rw [eb] at e1
      dsimp only at e1 ⊢
      have hF := (pu_mbr emm hg (rl_mI (by omega) h).1).2.1
      have hw1 := (hF.2.2.2 hw).1
      have h61 := (hF.2.2.2 hw).2
      rcases sim_br (by omega) h hg eb emm with ⟨k, hk, rfl, rfl, hl, hp, ht, h9⟩ | ⟨rfl, rfl, hf⟩
      · rw [if_neg (nI_m3 (by omega)), nI_clamp (by omega)] at e1
        rw [if_neg (nI_m1 (by omega)), nI_clamp (by omega)]
        have hpn : ¬ τ1 10 k = -1 := by rw [hp]; exact nI_m1 (by omega)
        have est := ((hl.2.2.2.2.2.1 k hk).2.2 hpn).1
        have em1 : σ1 0 3 = nI m0 := (h9 3 (by omega) (by omega) (by omega) (by omega) (by omega)).trans em
        by_cases c2 : nI i ≤ τ1 11 k
        · have c2' : nI i ≤ σ1 (94 + 2 * k) 2 := est ▸ c2
          rw [if_pos c2'] at e1
          rw [if_pos c2]
          rcases ih n' (B + 1) (i + 1) σ1 τ1 σ' r (by omega) hl (by omega) (by omega) (by omega) (by omega) hw1 em1 (pu_rlog h61 hlog c1) e1 with ⟨i', τ', z1, z2, z3, z4, z5, z6, z7, z8⟩ | ⟨τ', z1, z2, z3, z4⟩
          · exact Or.inl ⟨i', τ', z1, z2, z3, z4.mono (by omega), z5, z6, z7.trans hF.2.2.1, z8⟩
          · exact Or.inr ⟨τ', z1, z2.mono (by omega), z3.trans hF.2.2.1, z4⟩
        · have c2' : ¬ nI i ≤ σ1 (94 + 2 * k) 2 := est ▸ c2
          rw [if_neg c2'] at e1
          rw [if_neg c2]
          obtain ⟨k1, k2, k3, k4⟩ := hl.2.2.1 (i % 12) hr12
          have hv2 := (hl.2.2.2.1 (70 + 2 * (i % 12)) (by omega) (by omega)).2
          obtain ⟨t, ht2, et⟩ := vp_in_of hv2 (by omega)
          rw [et, nI_clamp (by omega), k4] at e1
          rw [← k3, et, nI_clamp (by omega)]
          have hl2 := sim_cwr (v := τ1 9 (i % 12)) (i := i) hl hk hpn ht2
          have s0 : k_cw k t (τ1 9 (i % 12)) (nI i) σ1 0 3 = nI m0 := by rw [s_cw, if_neg (by omega), if_neg (by omega), if_neg (by omega)]; exact em1
          have t0 : me_st (me_st (me_st τ1 14 (16 * k + t) (τ1 9 (i % 12))) 11 k (nI i)) 12 k (nI 1) 0 = τ1 0 := by rw [me_st_c _ _ _ (by omega), me_st_c _ _ _ (by omega), me_st_c _ _ _ (by omega)]
          have t6 : me_st (me_st (me_st τ1 14 (16 * k + t) (τ1 9 (i % 12))) 11 k (nI i)) 12 k (nI 1) 6 = τ1 6 := by rw [me_st_c _ _ _ (by omega), me_st_c _ _ _ (by omega), me_st_c _ _ _ (by omega)]
          rcases ih n' (B + 1) (i + 1) _ _ σ' r (by omega) hl2 (by omega) (by omega) (by omega) (by omega) (by rw [t0]; exact hw1) s0 (pu_rlog (t6.trans h61) hlog c1) e1 with ⟨i', τ', z1, z2, z3, z4, z5, z6, z7, z8⟩ | ⟨τ', z1, z2, z3, z4⟩
          · exact Or.inl ⟨i', τ', z1, z2, z3, z4.mono (by omega), z5, z6, by rw [z7, t0]; exact hF.2.2.1, z8⟩
          · exact Or.inr ⟨τ', z1, z2.mono (by omega), by rw [z3, t0]; exact hF.2.2.1, z4⟩
      · rw [if_pos rfl] at e1
        rw [if_pos rfl]
        cases e1
        exact Or.inr ⟨τ1, rfl, hf.mono (by omega), hF.2.2.1, rfl⟩
    · rw [if_neg c1]
      have hrs : r = nI i ∧ σ' = σ := by
        by_cases c2 : m0 + 12 ≤ i
        · rw [if_pos c2] at e1
          cases e1
          exact ⟨by rw [show i = m0 + 12 by omega], rfl⟩
        · rw [if_neg c2, if_neg (fun q => c1 (l1.symm.trans q))] at e1
          cases e1
          exact ⟨rfl, rfl⟩
      obtain ⟨rfl, rfl⟩ := hrs
      exact Or.inl ⟨i, τ, h1, h2, rfl, h.mono (by omega), em, hw', rfl, rfl⟩
theorem sim_recv {B : Nat} {σ τ : me_M} (hB : B ≤ 80000) (h : rl B σ τ) : r_ans (B + 40) (k_rec σ) (nI 0) (nI 1) (m_rec τ).1 (m_rec τ).2 := by
  have h := rl_t0 (nI 0) h
  have h0 : me_st τ 0 0 (nI 0) 0 0 = nI 0 := me_st_self _ _ _ _
  unfold k_rec m_rec
  generalize me_st τ 0 0 (nI 0) = τ0 at *
  dsimp only
  have hm : rl (B + 40) σ τ0 := h.mono (by omega)
  have hd5 := rl_dn h
  by_cases hd : σ 0 5 = 0
  · have hd' : τ0 0 25 = 0 := hd5 ▸ hd
    rw [if_pos hd, if_pos hd']
    unfold m_rec_18
    rw [m_ref_yes (n := 1) h0 bad1 (by omega) (by omega)]
    dsimp only
    rw [if_neg bad1]
    exact ⟨rl_t0 _ hm, (me_st_self τ0 0 0 (nI 1)).trans rfl, fun h => by cases h⟩
  · have hd' : ¬ τ0 0 25 = 0 := hd5 ▸ hd
    rw [if_neg hd, if_neg hd']
    unfold m_rec_18
    rw [m_ref_no h0]
    dsimp only
    rw [if_pos nI_0]
    rcases ek : k_mend σ with ⟨r1, σ1⟩
    rcases em : m_mend τ0 with ⟨q1, τ1⟩
    have hF := (pu_mmend em (rl_mI (by omega) h).1).2
    have hw0 : τ0 0 18 = nI 0 := (rl_mI (by omega) h).2.2 hd'
    have hth : τ1 0 0 = nI 0 := hF.2.2.1.trans h0
    dsimp only
    rcases sim_mend2 13 0 σ τ0 σ1 τ1 r1 q1 h (by omega) (by omega) ek em with ⟨rfl, rfl, hl⟩ | ⟨rfl, rfl, hf⟩
    · rw [if_neg bad1, if_neg bad1]
      obtain ⟨n, w, m, e1, e2, e3, l1, l2, l3, l4, l5⟩ := hl.2.2.2.2.2.2.2.2.1
      have e3' : τ1 0 10 = nI m := hl.2.2.2.2.2.2.2.2.2.1.symm.trans e3
      have eR : (τ1 0 10).toNatClampNeg = m := by rw [e3', nI_clamp (by omega)]
      rw [eR]
      rcases er0 : k_redo σ1 with ⟨r2, σ2⟩
      have er : k_redo_13 13 (m + 12) m σ1 = (r2, σ2) := by
        unfold k_redo at er0
        rw [e3, nI_clamp (by omega)] at er0
        exact er0
      dsimp only
      rcases sim_redo13 (m0 := m) (by omega) 13 14 B m σ1 τ1 σ2 r2 (by omega) hl (by omega) (by omega) (by omega) (by omega) (hF.2.2.2 hw0).1 e3 (fun j h1 h2 => by omega) er with ⟨i, τ2, z1, z2, rfl, z4, z5, z6, z7, z8⟩ | ⟨τ2, rfl, z2, z3, z4⟩
      · rw [if_neg (nI_m3 (by omega)), z8]
        refine ⟨(sim_up z4 z5 (by omega) (by omega) z1 z2 z6).mono (by omega), ?_, fun _ => ?_⟩
        · show me_st (me_st τ2 0 17 (nI i)) 0 25 (nI 0) 0 0 = nI 0
          rw [me_st_s _ _ _ (by omega), me_st_s _ _ _ (by omega)]
          exact z7.trans hth
        · show me_st (me_st σ2 0 12 (nI i)) 0 5 (nI 0) 0 12 - nI 1 = nI i - nI 1
          rw [me_st_s _ _ _ (by omega), me_st_self]
      · rw [if_pos rfl, z4]
        exact ⟨(rl_of_f z2).mono (by omega), z3.trans hth, fun _ => rfl⟩
    · rw [if_pos nI_0, if_pos nI_0]
      exact ⟨(rl_of_f hf).mono (by omega), hth, fun _ => rfl⟩
