/-! PURE D: k_I goes on through cleanDirty -/
theorem pu_cd95 : ∀ (n a b z i : Nat) (s s' : me_M) (r : Int32), k_cd_95 n a b z i s = (r, s') → i ≤ b + 1 → b < 4 → k_I s → k_I s' := by
  intro n
  induction n with
  | zero => intro a b z i s s' r h _ _ hI; cases h; exact hI
  | succ n ih =>
    intro a b z i s s' r h hi hb hI
    simp only [k_cd_95] at h
    split at h
    · cases h
      exact pu_I_of (fun u hu => me_st_c _ _ _ (by omega)) (fun k _ _ h7 _ => me_st_s _ _ _ h7) hI
    · rename_i c1
      have hib := (not_congr (nI_ltI (a := b) (b := i) (by omega) (by omega))).mp c1
      refine ih _ _ _ _ _ _ _ h (by omega) hb ?_
      obtain ⟨i1, i2, i3, i4, i5, i6⟩ := hI
      refine ⟨fun k hk hd => ?_, fun u hu hv => ?_, ?_, ?_, ?_, ?_⟩
      · by_cases hki : k = i
        · subst hki
          rw [me_st_self] at hd
          exact absurd nI_0 hd
        · rw [me_st_c _ _ _ (by omega)] at hd ⊢
          exact i1 k hk hd
      · rw [me_st_c _ _ _ (by omega)]; exact i2 u hu hv
      · rw [me_st_c _ _ _ (by omega)]; exact i3
      · rw [me_st_c _ _ _ (by omega)]; exact i4
      · rw [me_st_c _ _ _ (by omega)]; exact i5
      · rw [me_st_c _ _ _ (by omega)]; exact i6
theorem pu_cd17 : ∀ (n a b z i : Nat) (s s' : me_M) (r : Int32), k_cd_17 n a b z i s = (r, s') → a ≤ i → z + a ≤ i → i ≤ b + 1 → a ≤ b → b < 4 → k_I s → k_I s' := by
  intro n
  induction n with
  | zero => intro a b z i s s' r h _ _ _ _ _ hI; cases h; exact hI
  | succ n ih =>
    intro a b z i s s' r h hai hz hi hab hb hI
    simp only [k_cd_17] at h
    split at h
    · generalize e : k_wdh a b s = q at h
      obtain ⟨r1, s1⟩ := q
      have g := pu_wdh_I e ⟨hab, hb⟩ hI
      split at h
      · cases h; exact g
      · exact pu_cd95 _ _ _ _ _ _ _ _ h (by omega) hb g
    · rename_i c1
      have hib := (not_congr (nI_ltI (a := b) (b := i) (by omega) (by omega))).mp c1
      split at h
      · exact ih _ _ _ _ _ _ _ h (by omega) (by omega) (by omega) hab hb hI
      · generalize e : k_wp (12 + z) (s (94 + 2 * i) 1) (s (94 + 2 * i) 2) (94 + 2 * i + 1) s = q at h
        obtain ⟨r1, s1⟩ := q
        have g := pu_wp_I e (by omega) hI
        split at h
        · cases h; exact g
        · exact ih _ _ _ _ _ _ _ h (by omega) (by omega) (by omega) hab hb g
theorem pu_cd_I {a b : Nat} {s s' : me_M} {r : Int32} (h : k_cd a b s = (r, s')) (hab : a ≤ b ∧ b < 4) (hI : k_I s) : k_I s' := by
  simp only [k_cd] at h
  generalize e : k_lw s = q at h
  obtain ⟨r1, s1⟩ := q
  have g := pu_lw_I e hI
  split at h
  · cases h; exact g
  · exact pu_cd17 _ _ _ _ _ _ _ _ h (by omega) (by omega) (by omega) hab.1 hab.2 g
theorem pu_cam_I {s s' : me_M} {r : Int32} (h : k_cam s = (r, s')) (hI : k_I s) : k_I s' := by
  simp only [k_cam] at h
  generalize e : k_cd 0 3 s = q at h
  obtain ⟨r1, s1⟩ := q
  have g := pu_cd_I e (by omega) hI
  split at h
  · cases h; exact g
  · generalize e2 : k_ph s1 = q at h
    obtain ⟨r2, s2⟩ := q
    have g2 := pu_ph_I e2 g
    split at h
    · cases h; exact g2
    · cases h
      obtain ⟨i1, i2, i3, i4, i5, i6⟩ := g2
      refine ⟨fun k hk hd => ?_, fun u hu hv => ?_, ?_, ?_, ?_, ?_⟩
      · rw [me_st_c _ _ _ (by omega)] at hd ⊢; exact i1 k hk hd
      · rw [me_st_c _ _ _ (by omega)]; exact i2 u hu hv
      · rw [me_st_s _ _ _ (by decide)]; exact i3
      · rw [me_st_s _ _ _ (by decide)]; exact i4
      · rw [me_st_s _ _ _ (by decide), me_st_s _ _ _ (by decide)]; exact i5
      · rw [me_st_self]; exact i4
theorem pu_fill2 : ∀ (n k : Nat) (x : Int32) (j i : Nat) (s : me_M), (∀ u, u ≠ 94 + 2 * k → u ≠ 94 + 2 * k + 1 → k_fill_2 n k x j i s u = s u) := by
  intro n
  induction n with
  | zero => intros; rfl
  | succ n ih =>
    intro k x j i s u h1 h2
    simp only [k_fill_2]
    split
    · rw [me_st_c _ _ _ h1, me_st_c _ _ _ h1, me_st_c _ _ _ h1]
    · rw [ih _ _ _ _ _ _ h1 h2, me_st_c _ _ _ h2]
theorem pu_fill3 : ∀ (n k : Nat) (x : Int32) (j i : Nat) (s : me_M), 17 ≤ i + n → i ≤ 16 → k_fill_2 n k x j i s (94 + 2 * k) 1 = x ∧ k_fill_2 n k x j i s (94 + 2 * k) 3 = nI 0 := by
  intro n
  induction n with
  | zero => intro k x j i s h1 h2; omega
  | succ n ih =>
    intro k x j i s h1 h2
    simp only [k_fill_2]
    split
    · simp [me_st_eq]
    · rename_i c1
      have hi := (not_congr (nI_leI (a := 16) (b := i) (by omega) (by omega))).mp c1
      exact ih _ _ _ _ _ (by omega) (by omega)
theorem pu_fill_I {k j : Nat} {x : Int32} {s : me_M} (hk : k < 4) (hI : k_I s) : k_I (k_fill k x j s) ∧ k_fill k x j s (94 + 2 * k) 1 = x := by
  have hc := pu_fill2 17 k x j 0 s
  have hd := pu_fill3 17 k x j 0 s (by omega) (by omega)
  obtain ⟨i1, i2, i3, i4, i5, i6⟩ := hI
  refine ⟨⟨fun k' hk' hd' => ?_, fun u hu hv => ?_, ?_, ?_, ?_, ?_⟩, hd.1⟩
  · by_cases hkk : k' = k
    · subst hkk
      rw [k_fill, hd.2] at hd'
      exact absurd nI_0 hd'
    · rw [k_fill, hc _ (by omega) (by omega)] at hd' ⊢
      exact i1 k' hk' hd'
  · rw [k_fill, hc _ (by omega) (by omega)]; exact i2 u hu hv
  · rw [k_fill, hc _ (by omega) (by omega)]; exact i3
  · rw [k_fill, hc _ (by omega) (by omega)]; exact i4
  · rw [k_fill, hc _ (by omega) (by omega)]; exact i5
  · rw [k_fill, hc _ (by omega) (by omega)]; exact i6
