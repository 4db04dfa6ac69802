/-! PURE C: k_I goes on through writePage, writeDirtyHome -/
theorem pu_I_of {s s' : me_M} (h1 : ∀ u, 70 ≤ u → s' u = s u) (h2 : ∀ k, k ≠ 4 → k ≠ 6 → k ≠ 7 → k ≠ 8 → s' 0 k = s 0 k) (hI : k_I s) : k_I s' := by
  obtain ⟨i1, i2, i3, i4, i5, i6⟩ := hI
  refine ⟨fun k hk hd => ?_, fun a ha hb => ?_, ?_, ?_, ?_, ?_⟩
  · rw [h1 _ (by omega)] at hd ⊢; exact i1 k hk hd
  · rw [h1 _ ha]; exact i2 a ha hb
  · rw [h2 11 (by decide) (by decide) (by decide) (by decide)]; exact i3
  · rw [h2 12 (by decide) (by decide) (by decide) (by decide)]; exact i4
  · rw [h2 11 (by decide) (by decide) (by decide) (by decide), h2 12 (by decide) (by decide) (by decide) (by decide)]; exact i5
  · rw [h2 3 (by decide) (by decide) (by decide) (by decide)]; exact i6
theorem pu_ph_I {s s' : me_M} {r : Int32} (h : k_ph s = (r, s')) (hI : k_I s) : k_I s' := pu_I_of (fun u hu => (pu_ph h).1 u (by omega)) (fun k h4 h6 _ _ => (pu_ph h).2 k h4 h6) hI
theorem pu_wp_I {j q : Nat} {x y r : Int32} {s s' : me_M} (h : k_wp j x y q s = (r, s')) (hj : j < 16) (hI : k_I s) : k_I s' := pu_I_of (fun u hu => (pu_wp h).1 u (by omega) (by omega)) (fun k h4 h6 _ _ => (pu_wp h).2 k h4 h6) hI
theorem pu_wdh2 : ∀ (n a b i : Nat) (s s' : me_M) (r : Int32), k_wdh_2 n a b i s = (r, s') → i ≤ b + 1 → b < 4 → k_I s → (∀ u, 70 ≤ u → s' u = s u) ∧ (∀ k, k ≠ 4 → k ≠ 6 → s' 0 k = s 0 k) := by
  intro n
  induction n with
  | zero => intro a b i s s' r h _ _ _; cases h; exact ⟨fun _ _ => rfl, fun _ _ _ => rfl⟩
  | succ n ih =>
    intro a b i s s' r h hi hb hI
    simp only [k_wdh_2] at h
    split at h
    · cases h; exact ⟨fun _ _ => rfl, fun _ _ _ => rfl⟩
    · rename_i c1
      have hib := (not_congr (nI_ltI (a := b) (b := i) (by omega) (by omega))).mp c1
      split at h
      · exact ih _ _ _ _ _ _ h (by omega) hb hI
      · rename_i c2
        have hv := me_inb (hI.1 i (by omega) c2)
        generalize e : k_wp (s (94 + 2 * i) 1).toNatClampNeg (s (94 + 2 * i) 1) (s (94 + 2 * i) 2) (94 + 2 * i + 1) s = q at h
        obtain ⟨r1, s1⟩ := q
        have g := pu_wp e
        split at h
        · cases h; exact ⟨fun u hu => g.1 u (by omega) (by omega), g.2⟩
        · have g2 := ih _ _ _ _ _ _ h (by omega) hb (pu_wp_I e (by omega) hI)
          exact ⟨fun u hu => by rw [g2.1 u hu]; exact g.1 u (by omega) (by omega), fun k h4 h6 => by rw [g2.2 k h4 h6]; exact g.2 k h4 h6⟩
theorem pu_wdh {a b : Nat} {s s' : me_M} {r : Int32} (h : k_wdh a b s = (r, s')) (hab : a ≤ b ∧ b < 4) (hI : k_I s) : (∀ u, 70 ≤ u → s' u = s u) ∧ (∀ k, k ≠ 4 → k ≠ 6 → s' 0 k = s 0 k) := pu_wdh2 _ _ _ _ _ _ _ h (by omega) hab.2 hI
theorem pu_wdh_I {a b : Nat} {s s' : me_M} {r : Int32} (h : k_wdh a b s = (r, s')) (hab : a ≤ b ∧ b < 4) (hI : k_I s) : k_I s' := pu_I_of (pu_wdh h hab hI).1 (fun k h4 h6 _ _ => (pu_wdh h hab hI).2 k h4 h6) hI
/-- where a page may be -/
theorem pu_fo2 : ∀ (n : Nat) (x : Int32) (i : Nat) (s : me_M), 5 ≤ i + n → i ≤ 4 → k_fo_2 n x i s = (-1) ∨ ∃ k, i ≤ k ∧ k < 4 ∧ k_fo_2 n x i s = nI k ∧ s (94 + 2 * k) 1 = x ∧ ∀ j, i ≤ j → j < k → ¬ s (94 + 2 * j) 1 = x := by
  intro n
  induction n with
  | zero => intro x i s h1 h2; omega
  | succ n ih =>
    intro x i s h1 h2
    simp only [k_fo_2]
    split
    · exact Or.inl rfl
    · rename_i c1
      have hi := (not_congr (nI_leI (a := 4) (b := i) (by omega) (by omega))).mp c1
      split
      · rename_i c2
        exact Or.inr ⟨i, Nat.le_refl _, by omega, rfl, c2, fun j h1 h2 => by omega⟩
      · rename_i c2
        rcases ih x (i + 1) s (by omega) (by omega) with h | ⟨k, g1, g2, g3, g4, g5⟩
        · exact Or.inl h
        · exact Or.inr ⟨k, by omega, g2, g3, g4, fun j h1 h2 => by
            by_cases hj : j = i
            · subst hj; exact c2
            · exact g5 j (by omega) h2⟩
theorem pu_fo {x r : Int32} {s : me_M} (e : k_fo x s = r) (hr : ¬ r = (-1)) : ∃ k, k < 4 ∧ r = nI k ∧ s (94 + 2 * k) 1 = x ∧ ∀ j, j < k → ¬ s (94 + 2 * j) 1 = x := by
  rcases pu_fo2 5 x 0 s (by omega) (by omega) with h | ⟨k, -, h2, h3, h4, h5⟩
  · exact absurd (e.symm.trans h) hr
  · exact ⟨k, h2, e.symm.trans h3, h4, fun j hj => h5 j (Nat.zero_le _) hj⟩
theorem pu_fo_in {x r : Int32} {s : me_M} (e : k_fo x s = r) (hr : ¬ r = (-1)) : vp_in r 4 := by
  obtain ⟨k, h1, rfl, -⟩ := pu_fo e hr
  exact vp_in_nI h1 (by decide)
theorem pu_ff4 : ∀ (n v i : Nat) (s : me_M), v < 4 → 1 ≤ i → i ≤ 4 → 5 ≤ i + n → ∃ k, k < 4 ∧ k_ff_4 n v i s = nI k := by
  intro n
  induction n with
  | zero => intro v i s h1 h2 h3 h4; omega
  | succ n ih =>
    intro v i s h1 h2 h3 h4
    simp only [k_ff_4]
    split
    · exact ⟨v, h1, rfl⟩
    · rename_i c1
      have hi := (not_congr (nI_leI (a := 4) (b := i) (by omega) (by omega))).mp c1
      split
      · exact ih v (i + 1) s h1 (by omega) (by omega) (by omega)
      · exact ih i (i + 1) s (by omega) (by omega) (by omega) (by omega)
theorem pu_ff_in {r : Int32} {s : me_M} (e : k_ff s = r) : vp_in r 4 := by
  obtain ⟨k, h1, h2⟩ := pu_ff4 4 0 1 s (by omega) (by omega) (by omega) (by omega)
  rw [← e, k_ff, h2]
  exact vp_in_nI h1 (by decide)
theorem pu_sm4 : ∀ (n : Nat) (x v : Int32) (i : Nat) (s : me_M), (v = (-1) ∨ vp_in v 4) → i ≤ 4 → 5 ≤ i + n → k_sm_4 n x v i s = (-1) ∨ vp_in (k_sm_4 n x v i s) 4 := by
  intro n
  induction n with
  | zero => intro x v i s h1 h2 h3; omega
  | succ n ih =>
    intro x v i s h1 h2 h3
    simp only [k_sm_4]
    split
    · exact h1
    · rename_i c1
      have hi := (not_congr (nI_leI (a := 4) (b := i) (by omega) (by omega))).mp c1
      have hn : nI i = (-1) ∨ vp_in (nI i) 4 := Or.inr (vp_in_nI (by omega) (by decide))
      split
      · exact ih _ _ _ _ h1 (by omega) (by omega)
      · split
        · split
          · exact ih _ _ _ _ hn (by omega) (by omega)
          · split
            · exact ih _ _ _ _ h1 (by omega) (by omega)
            · exact ih _ _ _ _ hn (by omega) (by omega)
        · exact ih _ _ _ _ h1 (by omega) (by omega)
theorem pu_sm_in {x r : Int32} {s : me_M} (e : k_sm x s = r) (hr : ¬ r = (-1)) : vp_in r 4 := by
  rcases pu_sm4 5 x (-1) 0 s (Or.inl rfl) (by omega) (by omega) with h | h
  · exact absurd (e.symm.trans h) hr
  · rw [← e]; exact h
