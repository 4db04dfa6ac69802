/-! PURE M3: m_I and the numbers through clean -/
def m_F (s s' : me_M) : Prop := s' 0 17 = s 0 17 ∧ s' 0 10 = s 0 10 ∧ s' 0 0 = s 0 0 ∧ (s 0 18 = nI 0 → s' 0 18 = nI 0 ∧ s' 6 = s 6)
theorem pu_F_rf (s : me_M) : m_F s s := ⟨rfl, rfl, rfl, fun h => ⟨h, rfl⟩⟩
theorem pu_F_tr {s s' s'' : me_M} (h : m_F s s') (h' : m_F s' s'') : m_F s s'' := ⟨h'.1.trans h.1, h'.2.1.trans h.2.1, h'.2.2.1.trans h.2.2.1, fun q => ⟨(h'.2.2.2 (h.2.2.2 q).1).1, (h'.2.2.2 (h.2.2.2 q).1).2.trans (h.2.2.2 q).2⟩⟩
theorem pu_F_of {s s' : me_M} (h0 : ∀ k, k = 0 ∨ k = 10 ∨ k = 17 ∨ k = 18 → s' 0 k = s 0 k) (h6 : s' 6 = s 6) : m_F s s' := ⟨h0 17 (by omega), h0 10 (by omega), h0 0 (by omega), fun q => ⟨by rw [h0 18 (by omega)]; exact q, h6⟩⟩
theorem pu_mw_F {s s' : me_M} {r : Int32} (h : m_mw s = (r, s')) : m_F s s' := by
  rcases pu_mw h with ⟨-, -, rfl⟩ | ⟨-, -, g1, g2, -, -⟩
  · obtain ⟨g1, g2, g3, -⟩ := pu_md s
    exact ⟨g2 17 (by decide) (by decide) (by decide), g2 10 (by decide) (by decide) (by decide), g2 0 (by decide) (by decide) (by decide), fun _ => ⟨g3, g1 6 (by decide) (by decide) (by decide)⟩⟩
  · exact pu_F_of (fun k hk => g2 k (by omega) (by omega)) (g1 6 (by decide))
theorem pu_wh3_F : ∀ (n a : Nat) (y : Int32) (b : Nat) (o : Int32) (i : Nat) (s s' : me_M) (r : Int32), m_wh_3 n a y b o i s = (r, s') → m_F s s' := by
  intro n
  induction n with
  | zero => intro a y b o i s s' r h; cases h; exact pu_F_rf _
  | succ n ih =>
    intro a y b o i s s' r h
    simp only [m_wh_3] at h
    split at h
    · cases h; exact pu_F_rf _
    · generalize e : m_mw s = q at h
      obtain ⟨r1, s1⟩ := q
      have g := pu_mw_F e
      split at h
      · cases h; exact g
      · refine pu_F_tr g (pu_F_tr (pu_F_of (fun k _ => ?_) ?_) (ih _ _ _ _ _ _ _ _ h))
        · rw [pu_wh36 _ _ _ _ _ _ _ _ _ (by omega), me_st_c _ _ _ (by decide)]
        · rw [pu_wh36 _ _ _ _ _ _ _ _ _ (by omega), me_st_c _ _ _ (by decide)]
theorem pu_wh_F {a b : Nat} {y o r : Int32} {s s' : me_M} (h : m_wh a y b o s = (r, s')) : m_F s s' := pu_wh3_F _ _ _ _ _ _ _ _ _ h
theorem pu_wb10_F : ∀ (n a b : Nat) (x : Int32) (i : Nat) (s s' : me_M) (r : Int32), m_wb_10 n a b x i s = (r, s') → m_F s s' := by
  intro n
  induction n with
  | zero => intro a b x i s s' r h; cases h; exact pu_F_rf _
  | succ n ih =>
    intro a b x i s s' r h
    simp only [m_wb_10] at h
    split at h
    · cases h; exact pu_F_rf _
    · generalize e : m_mw s = q at h
      obtain ⟨r1, s1⟩ := q
      have g := pu_mw_F e
      split at h
      · cases h; exact g
      · refine pu_F_tr g (pu_F_tr (pu_F_of (fun k _ => ?_) ?_) (ih _ _ _ _ _ _ _ h))
        · rw [pu_wb60 _ _ _ _ _ _ _ (by omega), me_st_c _ _ _ (by decide), me_st_c _ _ _ (by decide)]
        · rw [pu_wb60 _ _ _ _ _ _ _ (by omega), me_st_c _ _ _ (by decide), me_st_c _ _ _ (by decide)]
theorem pu_wb_F {a b : Nat} {r : Int32} {s s' : me_M} (h : m_wb a b s = (r, s')) : m_F s s' := pu_wb10_F _ _ _ _ _ _ _ _ h
theorem pu_mlw2_N : ∀ (n i : Nat) (s s' : me_M) (r : Int32), m_lw_2 n i s = (r, s') → s' 0 17 = s 0 17 ∧ s' 0 10 = s 0 10 ∧ s' 0 0 = s 0 0 := by
  intro n
  induction n with
  | zero => intro i s s' r h; cases h; exact ⟨rfl, rfl, rfl⟩
  | succ n ih =>
    intro i s s' r h
    simp only [m_lw_2] at h
    split at h
    · cases h; exact ⟨me_st_s _ _ _ (by decide), me_st_s _ _ _ (by decide), me_st_s _ _ _ (by decide)⟩
    · generalize e : m_mw s = q at h
      obtain ⟨r1, s1⟩ := q
      have g := pu_mw_F e
      split at h
      · cases h; exact ⟨g.1, g.2.1, g.2.2.1⟩
      · obtain ⟨h1, h2, h3⟩ := ih _ _ _ _ h
        rw [me_st_c _ _ _ (by decide), me_st_c _ _ _ (by decide), me_st_c _ _ _ (by decide), me_st_c _ _ _ (by decide)] at h1 h2 h3
        exact ⟨h1.trans g.1, h2.trans g.2.1, h3.trans g.2.2.1⟩
theorem pu_mlw_0 (n : Nat) {s : me_M} (q : s 0 18 = nI 0) : m_lw_2 (n + 1) 0 s = (nI 1, me_st s 0 18 (nI 0)) := by
  simp only [m_lw_2]
  rw [q, nI_clamp (by decide), if_pos (nI_le (Nat.le_refl 0) (by decide))]
theorem pu_mlw_F {s s' : me_M} {r : Int32} (h : m_lw s = (r, s')) : m_F s s' := by
  obtain ⟨h1, h2, h3⟩ := pu_mlw2_N _ _ _ _ _ h
  refine ⟨h1, h2, h3, fun q => ?_⟩
  have e := h.symm.trans (pu_mlw_0 13 q)
  have e2 := (Prod.mk.inj e).2
  rw [e2]
  exact ⟨me_st_self _ _ _ _, me_st_c _ _ _ (by decide)⟩
theorem pu_cl114 : ∀ (n : Nat) (o : Int32) (i : Nat) (s s' : me_M) (r : Int32), m_cl_114 n o i s = (r, s') → m_I s → m_I s' ∧ m_F s s' := by
  intro n
  induction n with
  | zero => intro o i s s' r h hI; cases h; exact ⟨hI, pu_F_rf _⟩
  | succ n ih =>
    intro o i s s' r h hI
    have key : m_I (me_st (me_st s 12 i (nI 0)) 0 27 (me_st s 12 i (nI 0) 0 27 + nI 1)) ∧ m_F s (me_st (me_st s 12 i (nI 0)) 0 27 (me_st s 12 i (nI 0) 0 27 + nI 1)) := by
      obtain ⟨i1, i2, i3, i4, i5, i6, i7⟩ := hI
      have h0 : ∀ k : Nat, k ≠ 27 → me_st (me_st s 12 i (nI 0)) 0 27 (me_st s 12 i (nI 0) 0 27 + nI 1) 0 k = s 0 k := fun k hk => by
        rw [me_st_s _ _ _ hk, me_st_c _ _ _ (by decide)]
      have hu : ∀ u : Nat, u ≠ 0 → u ≠ 12 → me_st (me_st s 12 i (nI 0)) 0 27 (me_st s 12 i (nI 0) 0 27 + nI 1) u = s u := fun u h1 h2 => by
        rw [me_st_c _ _ _ h1, me_st_c _ _ _ h2]
      refine ⟨⟨?_, fun j hj => ?_, fun f hf hd => ?_, fun q hq => ?_, ?_, ?_, ?_⟩, pu_F_of (fun k hk => h0 k (by omega)) (hu 6 (by decide) (by decide))⟩
      · rw [h0 18 (by decide)]; exact i1
      · rw [hu 15 (by decide) (by decide), hu 16 (by decide) (by decide), hu 17 (by decide) (by decide)]; exact i2 j hj
      · rw [hu 10 (by decide) (by decide)]
        rw [me_st_c _ _ _ (by decide), me_st_eq] at hd
        by_cases hfi : f = i
        · simp only [hfi, true_and, if_true] at hd; exact absurd nI_0 hd
        · simp only [hfi, and_false, if_false] at hd; exact i3 f hf hd
      · rw [hu 7 (by decide) (by decide), hu 8 (by decide) (by decide)]; exact i4 q hq
      · rw [h0 10 (by decide)]; exact i5
      · rw [h0 17 (by decide)]; exact i6
      · rw [h0 10 (by decide), h0 17 (by decide), h0 18 (by decide)]; exact i7
    simp only [m_cl_114] at h
    split at h
    · cases h; exact ⟨hI, pu_F_rf _⟩
    · split at h
      · exact ih _ _ _ _ _ h hI
      · split at h
        · have g := ih _ _ _ _ _ h key.1
          exact ⟨g.1, pu_F_tr key.2 g.2⟩
        · split at h
          · have g := ih _ _ _ _ _ h key.1
            exact ⟨g.1, pu_F_tr key.2 g.2⟩
          · exact ih _ _ _ _ _ h hI
theorem pu_cl59 : ∀ (n : Nat) (o : Int32) (i : Nat) (s s' : me_M) (r : Int32), m_cl_59 n o i s = (r, s') → m_I s → m_I s' ∧ m_F s s' := by
  intro n
  induction n with
  | zero => intro o i s s' r h hI; cases h; exact ⟨hI, pu_F_rf _⟩
  | succ n ih =>
    intro o i s s' r h hI
    simp only [m_cl_59] at h
    split at h
    · exact pu_cl114 _ _ _ _ _ _ h hI
    · split at h
      · exact ih _ _ _ _ _ h hI
      · generalize e : m_wh (s 10 i).toNatClampNeg (s 11 i) i (nI 1) s = q at h
        obtain ⟨r1, s1⟩ := q
        have g1 := pu_wh_I e hI
        have g2 := pu_wh_F e
        split at h
        · split at h
          · cases h; exact ⟨g1, g2⟩
          · have g := ih _ _ _ _ _ h g1
            exact ⟨g.1, pu_F_tr g2 g.2⟩
        · split at h
          · split at h
            · cases h; exact ⟨g1, g2⟩
            · have g := ih _ _ _ _ _ h g1
              exact ⟨g.1, pu_F_tr g2 g.2⟩
          · exact ih _ _ _ _ _ h hI
theorem pu_cl13 : ∀ (n : Nat) (o : Int32) (z i : Nat) (s s' : me_M) (r : Int32), m_cl_13 n o z i s = (r, s') → m_I s → m_I s' ∧ m_F s s' := by
  intro n
  induction n with
  | zero => intro o z i s s' r h hI; cases h; exact ⟨hI, pu_F_rf _⟩
  | succ n ih =>
    intro o z i s s' r h hI
    simp only [m_cl_13] at h
    split at h
    · exact pu_cl59 _ _ _ _ _ _ h hI
    · split at h
      · exact ih _ _ _ _ _ _ h hI
      · generalize e : m_wb z i s = q at h
        obtain ⟨r1, s1⟩ := q
        have g1 := pu_wb_I e hI
        have g2 := pu_wb_F e
        split at h
        · split at h
          · cases h; exact ⟨g1, g2⟩
          · have g := ih _ _ _ _ _ _ h g1
            exact ⟨g.1, pu_F_tr g2 g.2⟩
        · split at h
          · split at h
            · cases h; exact ⟨g1, g2⟩
            · have g := ih _ _ _ _ _ _ h g1
              exact ⟨g.1, pu_F_tr g2 g.2⟩
          · exact ih _ _ _ _ _ _ h hI
theorem pu_cl {o r : Int32} {s s' : me_M} (h : m_cl o s = (r, s')) (hI : m_I s) : m_I s' ∧ m_F s s' := by
  simp only [m_cl] at h
  generalize e : m_lw s = q at h
  obtain ⟨r1, s1⟩ := q
  have g1 := pu_mlw_I e hI
  have g2 := pu_mlw_F e
  split at h
  · cases h; exact ⟨g1, g2⟩
  · have g := pu_cl13 _ _ _ _ _ _ _ h g1
    exact ⟨g.1, pu_F_tr g2 g.2⟩
