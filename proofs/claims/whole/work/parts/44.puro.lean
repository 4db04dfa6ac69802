/-! PURE M2: m_I goes on through logWaiting -/
theorem pu_mw0_I {s : me_M} (hI : m_I s) : m_I (me_st s 0 18 (nI 0)) := by
  obtain ⟨i1, i2, i3, i4, i5, i6, i7⟩ := hI
  refine ⟨?_, fun j hj => ?_, fun f hf hd => ?_, fun q hq => ?_, ?_, ?_, ?_⟩
  · rw [me_st_self]; exact vp_in_nI (by decide) (by decide)
  · rw [me_st_c _ _ _ (by decide), me_st_c _ _ _ (by decide), me_st_c _ _ _ (by decide)]; exact i2 j hj
  · rw [me_st_c _ _ _ (by decide)] at hd ⊢; exact i3 f hf hd
  · rw [me_st_c _ _ _ (by decide), me_st_c _ _ _ (by decide)]; exact i4 q hq
  · rw [me_st_s _ _ _ (by decide)]; exact i5
  · rw [me_st_s _ _ _ (by decide)]; exact i6
  · rw [me_st_self, me_st_s _ _ _ (by decide), me_st_s _ _ _ (by decide), nI_clamp (by decide)]; omega
theorem pu_mlw2 : ∀ (n i : Nat) (s s' : me_M) (r : Int32), m_lw_2 n i s = (r, s') → i ≤ 13 → m_I s → m_I s' := by
  intro n
  induction n with
  | zero => intro i s s' r h _ hI; cases h; exact hI
  | succ n ih =>
    intro i s s' r h hi hI
    simp only [m_lw_2] at h
    have hw := me_inb hI.1
    split at h
    · cases h; exact pu_mw0_I hI
    · rename_i c1
      have hlt := (not_congr (nI_leI (a := (s 0 18).toNatClampNeg) (b := i) (by omega) (by omega))).mp c1
      generalize e : m_mw s = q at h
      obtain ⟨r1, s1⟩ := q
      have g := pu_mw_I e hI
      split at h
      · cases h; exact g
      · refine ih _ _ _ _ h (by omega) (pu_mlw_st rfl rfl rfl rfl (Nat.mod_lt _ (by decide)) (by omega) g)
theorem pu_mlw_I {s s' : me_M} {r : Int32} (h : m_lw s = (r, s')) (hI : m_I s) : m_I s' := pu_mlw2 _ _ _ _ _ h (by omega) hI
/-- a counter that goes down to -1 -/
theorem pu_dn {x : Int32} (h : vp_in (x + nI 1) 5) (hx : ¬ x < 0) : vp_in x 4 ∧ vp_in (x + (-1) + nI 1) 5 ∧ (x + (-1) + nI 1).toNatClampNeg + 1 = (x + nI 1).toNatClampNeg := by
  obtain ⟨j, hj, rfl⟩ := nI_of hx
  have e1 : nI j + nI 1 = nI (j + 1) := nI_add j 1
  rw [e1] at h
  have h2 : j + 1 < 5 := by
    by_cases hj2 : j + 1 < 2 ^ 31
    · have := me_inb h
      rw [nI_clamp hj2] at this
      exact this
    · have hj3 : j + 1 = 2 ^ 31 := by omega
      rw [hj3] at h
      exact absurd (show nI (2 ^ 31) < 0 by decide) (fun q => h (Or.inl q))
  have e2 : nI j + (-1) + nI 1 = nI j := by
    rw [Int32.add_assoc]
    show nI j + ((-1) + nI 1) = nI j
    rw [show (-1 : Int32) + nI 1 = 0 from by decide, Int32.add_zero]
  refine ⟨vp_in_nI (by omega) (by decide), ?_, ?_⟩
  · rw [e2]; exact vp_in_nI (by omega) (by decide)
  · rw [e2, e1, nI_clamp (by omega), nI_clamp (by omega)]
