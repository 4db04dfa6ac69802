/-! PURE M1: the reference's memory; what its methods need so that no index leaves its row -/
def m_I (τ : me_M) : Prop := vp_in (τ 0 18) 13 ∧ (∀ i, i < 16 → vp_in (τ 15 i) 200000 ∧ vp_in (τ 16 i) 12 ∧ vp_in (τ 17 i) 16) ∧ (∀ f, f < 4 → ¬ τ 12 f = 0 → vp_in (τ 10 f) 12) ∧ (∀ r, r < 12 → vp_in (τ 7 r) 12 ∧ vp_in (τ 8 r) 16) ∧ vp_in (τ 0 10) 100000 ∧ vp_in (τ 0 17) 100000 ∧ (τ 0 18).toNatClampNeg + (τ 0 10).toNatClampNeg ≤ (τ 0 17).toNatClampNeg
theorem pu_mI_of {s s' : me_M} (h0 : ∀ k, k = 10 ∨ k = 17 ∨ k = 18 → s' 0 k = s 0 k) (hu : ∀ u, u = 7 ∨ u = 8 ∨ u = 10 ∨ u = 12 ∨ u = 15 ∨ u = 16 ∨ u = 17 → s' u = s u) (hI : m_I s) : m_I s' := by
  obtain ⟨i1, i2, i3, i4, i5, i6, i7⟩ := hI
  refine ⟨?_, fun i hi => ?_, fun f hf hd => ?_, fun r hr => ?_, ?_, ?_, ?_⟩
  · rw [h0 18 (by omega)]; exact i1
  · rw [hu 15 (by omega), hu 16 (by omega), hu 17 (by omega)]; exact i2 i hi
  · rw [hu 12 (by omega)] at hd; rw [hu 10 (by omega)]; exact i3 f hf hd
  · rw [hu 7 (by omega), hu 8 (by omega)]; exact i4 r hr
  · rw [h0 10 (by omega)]; exact i5
  · rw [h0 17 (by omega)]; exact i6
  · rw [h0 18 (by omega), h0 10 (by omega), h0 17 (by omega)]; exact i7
theorem pu_md17 : ∀ (n i : Nat) (s : me_M), i ≤ 4 → 5 ≤ i + n → (∀ u, u ≠ 10 → u ≠ 12 → m_down_17 n i s u = s u) ∧ (∀ f, f < i → m_down_17 n i s 10 f = s 10 f ∧ m_down_17 n i s 12 f = s 12 f) ∧ (∀ f, i ≤ f → f < 4 → m_down_17 n i s 10 f = (-1) ∧ m_down_17 n i s 12 f = nI 0) ∧ (∀ f, 4 ≤ f → m_down_17 n i s 10 f = s 10 f ∧ m_down_17 n i s 12 f = s 12 f) := by
  intro n
  induction n with
  | zero => intro i s h1 h2; omega
  | succ n ih =>
    intro i s h1 h2
    simp only [m_down_17]
    split
    · rename_i c1
      have hi := (nI_leI (a := 4) (b := i) (by omega) (by omega)).mp c1
      exact ⟨fun _ _ _ => rfl, fun _ _ => ⟨rfl, rfl⟩, fun f h1 h2 => by omega, fun _ _ => ⟨rfl, rfl⟩⟩
    · rename_i c1
      have hi := (not_congr (nI_leI (a := 4) (b := i) (by omega) (by omega))).mp c1
      obtain ⟨g1, g2, g3, g4⟩ := ih (i + 1) (me_st (me_st s 10 i (-1)) 12 i (nI 0)) (by omega) (by omega)
      have e10 : ∀ f, me_st (me_st s 10 i (-1)) 12 i (nI 0) 10 f = if f = i then (-1) else s 10 f := fun f => by
        rw [me_st_c _ _ _ (by decide), me_st_eq]; simp
      have e12 : ∀ f, me_st (me_st s 10 i (-1)) 12 i (nI 0) 12 f = if f = i then nI 0 else s 12 f := fun f => by
        rw [me_st_eq]
        by_cases hf : f = i
        · simp [hf]
        · simp only [hf, and_false, if_false]; rw [me_st_c _ _ _ (by decide)]
      refine ⟨fun u h10 h12 => by rw [g1 u h10 h12, me_st_c _ _ _ h12, me_st_c _ _ _ h10], fun f hf => ?_, fun f h3 h4 => ?_, fun f hf => ?_⟩
      · rw [(g2 f (by omega)).1, (g2 f (by omega)).2, e10, e12, if_neg (by omega), if_neg (by omega)]; exact ⟨rfl, rfl⟩
      · by_cases hfi : f = i
        · subst hfi
          rw [(g2 f (by omega)).1, (g2 f (by omega)).2, e10, e12, if_pos rfl, if_pos rfl]; exact ⟨rfl, rfl⟩
        · exact g3 f (by omega) h4
      · rw [(g4 f hf).1, (g4 f hf).2, e10, e12, if_neg (by omega), if_neg (by omega)]; exact ⟨rfl, rfl⟩
theorem pu_md (s : me_M) : (∀ u, u ≠ 0 → u ≠ 10 → u ≠ 12 → m_down s u = s u) ∧ (∀ k, k ≠ 18 → k ≠ 24 → k ≠ 25 → m_down s 0 k = s 0 k) ∧ m_down s 0 18 = nI 0 ∧ m_down s 0 24 = (-1) ∧ m_down s 0 25 = nI 1 ∧ (∀ f, f < 4 → m_down s 10 f = (-1) ∧ m_down s 12 f = nI 0) := by
  obtain ⟨g1, -, g3, -⟩ := pu_md17 5 0 (me_st (me_st (me_st s 0 24 (-1)) 0 25 (nI 1)) 0 18 (nI 0)) (by omega) (by omega)
  have e : m_down s = m_down_17 5 0 (me_st (me_st (me_st s 0 24 (-1)) 0 25 (nI 1)) 0 18 (nI 0)) := rfl
  rw [e]
  refine ⟨fun u h0 h10 h12 => ?_, fun k h18 h24 h25 => ?_, ?_, ?_, ?_, fun f hf => g3 f (Nat.zero_le _) hf⟩
  · rw [g1 u h10 h12, me_st_c _ _ _ h0, me_st_c _ _ _ h0, me_st_c _ _ _ h0]
  · rw [g1 0 (by decide) (by decide), me_st_s _ _ _ h18, me_st_s _ _ _ h25, me_st_s _ _ _ h24]
  · rw [g1 0 (by decide) (by decide), me_st_self]
  · rw [g1 0 (by decide) (by decide), me_st_s _ _ _ (by decide), me_st_s _ _ _ (by decide), me_st_self]
  · rw [g1 0 (by decide) (by decide), me_st_s _ _ _ (by decide), me_st_self]
theorem pu_md_I {s : me_M} (hI : m_I s) : m_I (m_down s) := by
  obtain ⟨g1, g2, g3, g4, g5, g6⟩ := pu_md s
  obtain ⟨i1, i2, i3, i4, i5, i6, i7⟩ := hI
  refine ⟨?_, fun i hi => ?_, fun f hf hd => ?_, fun r hr => ?_, ?_, ?_, ?_⟩
  · rw [g3]; exact vp_in_nI (by decide) (by decide)
  · rw [g1 15 (by decide) (by decide) (by decide), g1 16 (by decide) (by decide) (by decide), g1 17 (by decide) (by decide) (by decide)]; exact i2 i hi
  · rw [(g6 f hf).2] at hd; exact absurd nI_0 hd
  · rw [g1 7 (by decide) (by decide) (by decide), g1 8 (by decide) (by decide) (by decide)]; exact i4 r hr
  · rw [g2 10 (by decide) (by decide) (by decide)]; exact i5
  · rw [g2 17 (by decide) (by decide) (by decide)]; exact i6
  · rw [g3, g2 10 (by decide) (by decide) (by decide), g2 17 (by decide) (by decide) (by decide), nI_clamp (by decide)]; omega
theorem pu_mw {s s' : me_M} {r : Int32} (h : m_mw s = (r, s')) : (r = nI 0 ∧ s 0 24 = 0 ∧ s' = m_down s) ∨ (r = nI 1 ∧ ¬ s 0 24 = 0 ∧ (∀ u, u ≠ 0 → s' u = s u) ∧ (∀ k, k ≠ 24 → k ≠ 26 → s' 0 k = s 0 k) ∧ s' 0 24 = (if s 0 24 ≤ 0 then s 0 24 else s 0 24 - nI 1) ∧ s' 0 26 = s 0 26 + nI 1) := by
  simp only [m_mw] at h
  split at h
  · rename_i c0
    obtain ⟨e8, e9⟩ := Prod.mk.inj h
    exact Or.inl ⟨e8.symm, c0, e9.symm⟩
  · rename_i c0
    split at h
    · rename_i c1
      obtain ⟨e8, e9⟩ := Prod.mk.inj h
      subst e9
      refine Or.inr ⟨e8.symm, c0, fun u hu => by rw [me_st_c _ _ _ hu, me_st_c _ _ _ hu], fun k h4 h6 => by rw [me_st_s _ _ _ h6, me_st_s _ _ _ h4], ?_, ?_⟩
      · rw [me_st_s _ _ _ (by decide), me_st_self, if_pos c1, nI_0, Int32.sub_zero]
      · rw [me_st_self, me_st_s _ _ _ (by decide)]
    · rename_i c1
      obtain ⟨e8, e9⟩ := Prod.mk.inj h
      subst e9
      refine Or.inr ⟨e8.symm, c0, fun u hu => by rw [me_st_c _ _ _ hu, me_st_c _ _ _ hu], fun k h4 h6 => by rw [me_st_s _ _ _ h6, me_st_s _ _ _ h4], ?_, ?_⟩
      · rw [me_st_s _ _ _ (by decide), me_st_self, if_neg c1]
      · rw [me_st_self, me_st_s _ _ _ (by decide)]
theorem pu_mw_I {s s' : me_M} {r : Int32} (h : m_mw s = (r, s')) (hI : m_I s) : m_I s' := by
  rcases pu_mw h with ⟨-, -, rfl⟩ | ⟨-, -, g1, g2, -, -⟩
  · exact pu_md_I hI
  · exact pu_mI_of (fun k hk => g2 k (by omega) (by omega)) (fun u hu => g1 u (by omega)) hI
theorem pu_wh36 : ∀ (n a : Nat) (y : Int32) (b : Nat) (o : Int32) (i t : Nat) (s : me_M) (u : Nat), u ≠ 2 → m_wh_36 n a y b o i t s u = s u := by
  intro n
  induction n with
  | zero => intros; rfl
  | succ n ih =>
    intro a y b o i t s u hu
    simp only [m_wh_36]
    split
    · rfl
    · split
      · rw [ih _ _ _ _ _ _ _ _ hu, me_st_c _ _ _ hu]
      · rw [ih _ _ _ _ _ _ _ _ hu, me_st_c _ _ _ hu]
theorem pu_wh3 : ∀ (n a : Nat) (y : Int32) (b : Nat) (o : Int32) (i : Nat) (s s' : me_M) (r : Int32), m_wh_3 n a y b o i s = (r, s') → m_I s → m_I s' := by
  intro n
  induction n with
  | zero => intro a y b o i s s' r h hI; cases h; exact hI
  | succ n ih =>
    intro a y b o i s s' r h hI
    simp only [m_wh_3] at h
    split at h
    · cases h; exact hI
    · generalize e : m_mw s = q at h
      obtain ⟨r1, s1⟩ := q
      have g := pu_mw_I e hI
      split at h
      · cases h; exact g
      · refine ih _ _ _ _ _ _ _ _ h (pu_mI_of (fun k _ => ?_) (fun u hu => ?_) g)
        · rw [pu_wh36 _ _ _ _ _ _ _ _ _ (by omega), me_st_c _ _ _ (by decide)]
        · rw [pu_wh36 _ _ _ _ _ _ _ _ _ (by omega), me_st_c _ _ _ (by omega)]
theorem pu_wh_I {a b : Nat} {y o r : Int32} {s s' : me_M} (h : m_wh a y b o s = (r, s')) (hI : m_I s) : m_I s' := pu_wh3 _ _ _ _ _ _ _ _ _ h hI
theorem pu_wb60 : ∀ (n a b i t : Nat) (s : me_M) (u : Nat), u ≠ 5 → m_wb_60 n a b i t s u = s u := by
  intro n
  induction n with
  | zero => intros; rfl
  | succ n ih =>
    intro a b i t s u hu
    simp only [m_wb_60]
    split
    · rfl
    · rw [ih _ _ _ _ _ _ hu, me_st_c _ _ _ hu]
theorem pu_wb10 : ∀ (n a b : Nat) (x : Int32) (i : Nat) (s s' : me_M) (r : Int32), m_wb_10 n a b x i s = (r, s') → m_I s → m_I s' := by
  intro n
  induction n with
  | zero => intro a b x i s s' r h hI; cases h; exact hI
  | succ n ih =>
    intro a b x i s s' r h hI
    simp only [m_wb_10] at h
    split at h
    · cases h; exact hI
    · generalize e : m_mw s = q at h
      obtain ⟨r1, s1⟩ := q
      have g := pu_mw_I e hI
      split at h
      · cases h; exact g
      · refine ih _ _ _ _ _ _ _ h (pu_mI_of (fun k _ => ?_) (fun u hu => ?_) g)
        · rw [pu_wb60 _ _ _ _ _ _ _ (by omega), me_st_c _ _ _ (by decide), me_st_c _ _ _ (by decide)]
        · rw [pu_wb60 _ _ _ _ _ _ _ (by omega), me_st_c _ _ _ (by omega), me_st_c _ _ _ (by omega)]
theorem pu_wb_I {a b : Nat} {r : Int32} {s s' : me_M} (h : m_wb a b s = (r, s')) (hI : m_I s) : m_I s' := pu_wb10 _ _ _ _ _ _ _ _ h hI
/-- one record is written -/
theorem pu_mlw_st {s1 s2 s3 s4 s5 : me_M} {r i : Nat} {v w : Int32} (e1 : me_st s1 6 r v = s2) (e2 : me_st s2 7 r (s2 16 i) = s3) (e3 : me_st s3 8 r (s3 17 i) = s4) (e4 : me_st s4 9 r w = s5) (hr : r < 12) (hi : i < 16) (hI : m_I s1) : m_I s5 := by
  subst e4; subst e3; subst e2; subst e1
  obtain ⟨i1, i2, i3, i4, i5, i6, i7⟩ := hI
  refine ⟨?_, fun j hj => ?_, fun f hf hd => ?_, fun q hq => ?_, ?_, ?_, ?_⟩
  · rw [me_st_c _ _ _ (by decide), me_st_c _ _ _ (by decide), me_st_c _ _ _ (by decide), me_st_c _ _ _ (by decide)]; exact i1
  · simp only [me_st_eq]; simpa using i2 j hj
  · simp only [me_st_eq] at hd ⊢; simp at hd ⊢; exact i3 f hf hd
  · simp only [me_st_eq]
    simp
    by_cases hq2 : q = r
    · simp only [hq2, if_true]; exact ⟨(i2 i hi).2.1, (i2 i hi).2.2⟩
    · simp only [hq2, if_false]; exact i4 q hq
  · rw [me_st_c _ _ _ (by decide), me_st_c _ _ _ (by decide), me_st_c _ _ _ (by decide), me_st_c _ _ _ (by decide)]; exact i5
  · rw [me_st_c _ _ _ (by decide), me_st_c _ _ _ (by decide), me_st_c _ _ _ (by decide), me_st_c _ _ _ (by decide)]; exact i6
  · rw [me_st_c _ _ _ (by decide), me_st_c _ _ _ (by decide), me_st_c _ _ _ (by decide), me_st_c _ _ _ (by decide)]; exact i7
