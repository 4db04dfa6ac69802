/-! PURE B: what writePage and logWaiting leave alone -/
theorem pu_wp3 : ∀ (n j : Nat) (x y : Int32) (q i : Nat) (s s' : me_M) (r : Int32), k_wp_3 n j x y q i s = (r, s') → (∀ u, u ≠ 0 → (u < 6 + 4 * j + 1 ∨ 6 + 4 * j + 3 < u) → s' u = s u) ∧ (∀ k, k ≠ 4 → k ≠ 6 → s' 0 k = s 0 k) := by
  intro n
  induction n with
  | zero => intro j x y q i s s' r h; cases h; exact ⟨fun _ _ _ => rfl, fun _ _ _ => rfl⟩
  | succ n ih =>
    intro j x y q i s s' r h
    simp only [k_wp_3] at h
    split at h
    · cases h; exact ⟨fun _ _ _ => rfl, fun _ _ _ => rfl⟩
    · have h1 := pu_ph (σ := s) (r := (k_ph s).1) (σ' := (k_ph s).2) rfl
      split at h
      · cases h; exact ⟨fun u hu _ => h1.1 u hu, h1.2⟩
      · have h2 := ih _ _ _ _ _ _ _ _ h
        refine ⟨fun u hu hv => ?_, fun k h4 h6 => ?_⟩
        · rw [h2.1 u hu hv, k_put, pu_put9 _ _ _ _ _ _ _ _ _ hv, h1.1 u hu]
        · rw [h2.2 k h4 h6, k_put, pu_put9 _ _ _ _ _ _ _ _ _ (by omega), h1.2 k h4 h6]
theorem pu_wp {j q : Nat} {x y r : Int32} {s s' : me_M} (h : k_wp j x y q s = (r, s')) : (∀ u, u ≠ 0 → (u < 6 + 4 * j + 1 ∨ 6 + 4 * j + 3 < u) → s' u = s u) ∧ (∀ k, k ≠ 4 → k ≠ 6 → s' 0 k = s 0 k) := pu_wp3 _ _ _ _ _ _ _ _ _ h
theorem pu_wp_hp {j q : Nat} {x y r : Int32} {s s' : me_M} (h : k_wp j x y q s = (r, s')) (hj : j < 16) (hp : ∀ k, k < 4 → ¬ s (94 + 2 * k) 3 = 0 → vp_in (s (94 + 2 * k) 1) 12) : ∀ k, k < 4 → ¬ s' (94 + 2 * k) 3 = 0 → vp_in (s' (94 + 2 * k) 1) 12 := by
  intro k hk hd
  have h1 := (pu_wp h).1 (94 + 2 * k) (by omega) (by omega)
  rw [h1] at hd ⊢
  exact hp k hk hd
/-- TO SYNC: the log's records may change (even cells of 70 .. 93), and three numbers of the object -/
theorem pu_lw14 : ∀ (n w u i : Nat) (s s' : me_M) (r : Int32), k_lw_14 n w u i s = (r, s') → (∀ z, z ≠ 0 → (z < 70 ∨ 94 ≤ z ∨ z % 2 = 1) → s' z = s z) ∧ (∀ k, k ≠ 4 → k ≠ 6 → k ≠ 11 → s' 0 k = s 0 k) ∧ (s' 0 11 = s 0 11 ∨ s' 0 11 = nI 0) ∧ ((∀ a, 70 ≤ a → a < 94 → vp_in (s a 1) 12 ∧ vp_in (s a 2) 16) → ∀ a, 70 ≤ a → a < 94 → vp_in (s' a 1) 12 ∧ vp_in (s' a 2) 16) := by
  intro n
  induction n with
  | zero => intro w u i s s' r h; cases h; exact ⟨fun _ _ _ => rfl, fun _ _ _ _ => rfl, Or.inl rfl, fun h => h⟩
  | succ n ih =>
    intro w u i s s' r h
    simp only [k_lw_14] at h
    split at h
    · cases h
      exact ⟨fun z hz _ => me_st_c _ _ _ hz, fun k _ _ h11 => me_st_s _ _ _ h11, Or.inr (me_st_self _ _ _ _), fun h a ha hb => by rw [me_st_c _ _ _ (by omega)]; exact h a ha hb⟩
    · have h1 := pu_ph (σ := s) (r := (k_ph s).1) (σ' := (k_ph s).2) rfl
      split at h
      · cases h
        exact ⟨fun z hz _ => h1.1 z hz, fun k h4 h6 _ => h1.2 k h4 h6, Or.inl (h1.2 11 (by decide) (by decide)), fun h a ha hb => by rw [h1.1 a (by omega)]; exact h a ha hb⟩
      · have hm : i % 12 < 12 := Nat.mod_lt _ (by decide)
        obtain ⟨g1, g2, g3, g4⟩ := ih _ _ _ _ _ _ h
        have hc : ∀ z, z ≠ 70 + 2 * (i % 12) → k_copy (70 + 2 * (i % 12)) (70 + 2 * (i % 12) + 1) (k_ph s).2 z = (k_ph s).2 z := fun z hz => by rw [k_copy]; exact pu_set hz
        refine ⟨fun z hz hv => ?_, fun k h4 h6 h11 => ?_, ?_, fun hr => g4 (fun a ha hb => ?_)⟩
        · rw [g1 z hz hv, hc z (by omega), h1.1 z hz]
        · rw [g2 k h4 h6 h11, hc 0 (by omega), h1.2 k h4 h6]
        · rw [hc 0 (by omega), h1.2 11 (by decide) (by decide)] at g3
          exact g3
        · by_cases he : a = 70 + 2 * (i % 12)
          · subst he
            have h5 := pu_set0 (70 + 2 * (i % 12)) ((k_ph s).2 (70 + 2 * (i % 12) + 1) 0) ((k_ph s).2 (70 + 2 * (i % 12) + 1) 1) ((k_ph s).2 (70 + 2 * (i % 12) + 1) 2) ((k_ph s).2 (70 + 2 * (i % 12) + 1) 3) (k_ph s).2
            rw [k_copy, h5.2.1, h5.2.2.1, h1.1 _ (by omega)]
            exact hr _ (by omega) (by omega)
          · rw [hc a he, h1.1 a (by omega)]
            exact hr a ha hb
theorem pu_lw {s s' : me_M} {r : Int32} (h : k_lw s = (r, s')) : (∀ z, z ≠ 0 → (z < 70 ∨ 94 ≤ z ∨ z % 2 = 1) → s' z = s z) ∧ (∀ k, k ≠ 4 → k ≠ 6 → k ≠ 11 → s' 0 k = s 0 k) ∧ (s' 0 11 = s 0 11 ∨ s' 0 11 = nI 0) ∧ ((∀ a, 70 ≤ a → a < 94 → vp_in (s a 1) 12 ∧ vp_in (s a 2) 16) → ∀ a, 70 ≤ a → a < 94 → vp_in (s' a 1) 12 ∧ vp_in (s' a 2) 16) := pu_lw14 _ _ _ _ _ _ _ h
theorem pu_lw_hp {s s' : me_M} {r : Int32} (h : k_lw s = (r, s')) (hp : ∀ k, k < 4 → ¬ s (94 + 2 * k) 3 = 0 → vp_in (s (94 + 2 * k) 1) 12) : ∀ k, k < 4 → ¬ s' (94 + 2 * k) 3 = 0 → vp_in (s' (94 + 2 * k) 1) 12 := by
  intro k hk hd
  have h1 := (pu_lw h).1 (94 + 2 * k) (by omega) (by omega)
  rw [h1] at hd ⊢
  exact hp k hk hd
theorem pu_lw_I {s s' : me_M} {r : Int32} (h : k_lw s = (r, s')) (hI : k_I s) : k_I s' := by
  obtain ⟨g1, g2, g3, g4⟩ := pu_lw h
  obtain ⟨i1, i2, i3, i4, i5, i6⟩ := hI
  refine ⟨pu_lw_hp h i1, g4 i2, ?_, ?_, ?_, ?_⟩
  · rcases g3 with g | g
    · rw [g]; exact i3
    · rw [g]; exact vp_in_nI (by decide) (by decide)
  · rw [g2 12 (by decide) (by decide) (by decide)]; exact i4
  · rw [g2 12 (by decide) (by decide) (by decide)]
    rcases g3 with g | g
    · rw [g]; exact i5
    · rw [g, nI_clamp (by decide)]; exact Nat.zero_le _
  · rw [g2 3 (by decide) (by decide) (by decide)]; exact i6
