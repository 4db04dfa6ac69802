/-! PURE F: indices of the class's face -/
theorem pu_isIn {x : Int32} {k : Nat} (h : ¬ k_isIn x (nI k) = 0) : vp_in x k := by
  unfold k_isIn at h
  by_cases h1 : x < 0
  · rw [if_pos h1] at h; exact absurd nI_0 h
  · rw [if_neg h1] at h
    by_cases h2 : nI k ≤ x
    · rw [if_pos h2] at h; exact absurd nI_0 h
    · intro q
      rcases q with q | q
      · exact h1 q
      · apply h2
        obtain ⟨j, hj, rfl⟩ := nI_of h1
        rw [nI_clamp hj] at q
        exact nI_le q hj
theorem pu_kchg {b w : Int32} (h2 : ¬ k_isIn b (nI 16) = 0) (h3 : ¬ w < nI 1) (h4 : w ≤ nI 16 - b) : vp_in b 16 ∧ vp_in w 17 ∧ 1 ≤ w.toNatClampNeg ∧ b.toNatClampNeg + w.toNatClampNeg ≤ 16 := by
  have g2 := pu_isIn h2
  have b2 := me_inb g2
  have e2 := me_ine g2
  have hw : ¬ w < 0 := fun q => h3 (Int32.lt_trans q (by decide))
  obtain ⟨j, hj, rfl⟩ := nI_of hw
  rw [e2, pk_sub (by omega)] at h4
  have g4 := (nI_leI hj (by omega)).mp h4
  have g3 := (not_congr (nI_ltI hj (by decide))).mp h3
  rw [nI_clamp hj]
  exact ⟨g2, vp_in_nI (by omega) (by decide), by omega, by omega⟩
theorem pu_mend2k : ∀ (n i : Nat) (s s' : me_M) (r : Int32), k_mend_2 n i s = (r, s') → i ≤ 12 → k_I s → k_I s' := by
  intro n
  induction n with
  | zero => intro i s s' r h _ hI; cases h; exact hI
  | succ n ih =>
    intro i s s' r h hi hI
    simp only [k_mend_2] at h
    split at h
    · cases h; exact hI
    · rename_i c1
      have hlt := (not_congr (nI_leI (a := 12) (b := i) (by omega) (by omega))).mp c1
      split at h
      · generalize k_sm (nI i) s = v at h
        split at h
        · exact ih _ _ _ _ h (by omega) hI
        · generalize e : k_wp i (nI i) (s (6 + 4 * (12 + v.toNatClampNeg) + 2) 0) (6 + 4 * (12 + v.toNatClampNeg) + 1) s = q at h
          obtain ⟨r1, s1⟩ := q
          have g := pu_wp_I e (by omega) hI
          split at h
          · cases h; exact g
          · exact ih _ _ _ _ h (by omega) (pu_I_of (fun u hu => me_st_c _ _ _ (by omega)) (fun k _ _ _ h8 => me_st_s _ _ _ h8) g)
      · exact ih _ _ _ _ h (by omega) hI
theorem pu_mend_I {s s' : me_M} {r : Int32} (h : k_mend s = (r, s')) (hI : k_I s) : k_I s' := pu_mend2k _ _ _ _ _ h (by omega) hI
