/-! PURE M4: the reference's bring, mend, check; refuses and in -/
theorem pu_mtail {s : me_M} {f : Nat} {x y : Int32} (hI : m_I s) : m_I (me_st (me_st s 0 16 x) 13 f y) ∧ m_F s (me_st (me_st s 0 16 x) 13 f y) ∧ me_st (me_st s 0 16 x) 13 f y 10 = s 10 := by
  have h0 : ∀ k : Nat, k ≠ 16 → me_st (me_st s 0 16 x) 13 f y 0 k = s 0 k := fun k hk => by rw [me_st_c _ _ _ (by decide), me_st_s _ _ _ hk]
  have hu : ∀ u : Nat, u ≠ 0 → u ≠ 13 → me_st (me_st s 0 16 x) 13 f y u = s u := fun u h1 h2 => by rw [me_st_c _ _ _ h2, me_st_c _ _ _ h1]
  exact ⟨pu_mI_of (fun k hk => h0 k (by omega)) (fun u h => hu u (by omega) (by omega)) hI, pu_F_of (fun k hk => h0 k (by omega)) (hu 6 (by decide) (by decide)), hu 10 (by decide) (by decide)⟩
theorem pu_mb176 : ∀ (n g : Nat) (w : Int32) (i : Nat) (s : me_M) (u : Nat), u ≠ 14 → m_br_176 n g w i s u = s u := by
  intro n
  induction n with
  | zero => intros; rfl
  | succ n ih =>
    intro g w i s u hu
    simp only [m_br_176]
    split
    · rfl
    · rw [ih _ _ _ _ _ hu, me_st_c _ _ _ hu]
theorem pu_mfill {s : me_M} {f g n : Nat} {w y : Int32} (hg : g < 12) (hI : m_I s) : m_I (m_br_176 n g w 0 (me_st (me_st (me_st s 10 f (nI g)) 11 f y) 12 f (nI 0))) ∧ m_F s (m_br_176 n g w 0 (me_st (me_st (me_st s 10 f (nI g)) 11 f y) 12 f (nI 0))) ∧ m_br_176 n g w 0 (me_st (me_st (me_st s 10 f (nI g)) 11 f y) 12 f (nI 0)) 10 f = nI g := by
  have hu : ∀ u : Nat, u ≠ 10 → u ≠ 11 → u ≠ 12 → u ≠ 14 → m_br_176 n g w 0 (me_st (me_st (me_st s 10 f (nI g)) 11 f y) 12 f (nI 0)) u = s u := fun u h1 h2 h3 h4 => by
    rw [pu_mb176 _ _ _ _ _ _ h4, me_st_c _ _ _ h3, me_st_c _ _ _ h2, me_st_c _ _ _ h1]
  have e10 : ∀ k, m_br_176 n g w 0 (me_st (me_st (me_st s 10 f (nI g)) 11 f y) 12 f (nI 0)) 10 k = if k = f then nI g else s 10 k := fun k => by
    rw [pu_mb176 _ _ _ _ _ _ (by decide), me_st_c _ _ _ (by decide), me_st_c _ _ _ (by decide), me_st_eq]; simp
  have e12 : ∀ k, m_br_176 n g w 0 (me_st (me_st (me_st s 10 f (nI g)) 11 f y) 12 f (nI 0)) 12 k = if k = f then nI 0 else s 12 k := fun k => by
    rw [pu_mb176 _ _ _ _ _ _ (by decide), me_st_eq]
    by_cases hk : k = f
    · simp [hk]
    · simp only [hk, and_false, if_false]; rw [me_st_c _ _ _ (by decide), me_st_c _ _ _ (by decide)]
  obtain ⟨i1, i2, i3, i4, i5, i6, i7⟩ := hI
  have c0 := hu 0 (by decide) (by decide) (by decide) (by decide)
  refine ⟨⟨?_, fun j hj => ?_, fun k hk hd => ?_, fun q hq => ?_, ?_, ?_, ?_⟩, pu_F_of (fun k _ => by rw [c0]) (hu 6 (by decide) (by decide) (by decide) (by decide)), by rw [e10, if_pos rfl]⟩
  · rw [c0]; exact i1
  · rw [hu 15 (by decide) (by decide) (by decide) (by decide), hu 16 (by decide) (by decide) (by decide) (by decide), hu 17 (by decide) (by decide) (by decide) (by decide)]; exact i2 j hj
  · rw [e12] at hd
    rw [e10]
    by_cases hkf : k = f
    · rw [if_pos hkf]; exact vp_in_nI hg (by decide)
    · rw [if_neg hkf] at hd ⊢; exact i3 k hk hd
  · rw [hu 7 (by decide) (by decide) (by decide) (by decide), hu 8 (by decide) (by decide) (by decide) (by decide)]; exact i4 q hq
  · rw [c0]; exact i5
  · rw [c0]; exact i6
  · rw [c0]; exact i7
theorem pu_mb4 : ∀ (n g : Nat) (v : Int32) (i : Nat) (s : me_M), i ≤ 4 → 5 ≤ i + n → (v = (-1) ∨ ∃ k, k < 4 ∧ v = nI k ∧ s 10 k = nI g) → m_br_4 n g v i s = (-1) ∨ ∃ k, k < 4 ∧ m_br_4 n g v i s = nI k ∧ s 10 k = nI g := by
  intro n
  induction n with
  | zero => intro g v i s h1 h2; omega
  | succ n ih =>
    intro g v i s h1 h2 hv
    simp only [m_br_4]
    split
    · exact hv
    · rename_i c1
      have hi := (not_congr (nI_leI (a := 4) (b := i) (by omega) (by omega))).mp c1
      split
      · rename_i c2
        exact ih _ _ _ _ (by omega) (by omega) (Or.inr ⟨i, by omega, rfl, c2⟩)
      · exact ih _ _ _ _ (by omega) (by omega) hv
theorem pu_mb41 : ∀ (n g : Nat) (v x : Int32) (s : me_M), vp_in (x + nI 1) 5 → (x + nI 1).toNatClampNeg + 1 ≤ n → (v = (-1) ∨ vp_in v 4) → m_br_41 n g v x s = (-1) ∨ vp_in (m_br_41 n g v x s) 4 := by
  intro n
  induction n with
  | zero => intro g v x s h1 h2; omega
  | succ n ih =>
    intro g v x s h1 h2 hv
    simp only [m_br_41]
    split
    · exact hv
    · rename_i c1
      have hd := pu_dn h1 c1
      split
      · exact ih _ _ _ _ hd.2.1 (by have := hd.2.2; omega) (Or.inr hd.1)
      · exact ih _ _ _ _ hd.2.1 (by have := hd.2.2; omega) hv
theorem pu_mb83 : ∀ (n g v i : Nat) (s : me_M), v < 4 → 1 ≤ i → i ≤ 4 → 5 ≤ i + n → m_br_83 n g v i s < 4 := by
  intro n
  induction n with
  | zero => intro g v i s h1 h2 h3 h4; omega
  | succ n ih =>
    intro g v i s h1 h2 h3 h4
    simp only [m_br_83]
    split
    · exact h1
    · rename_i c1
      have hi := (not_congr (nI_leI (a := 4) (b := i) (by omega) (by omega))).mp c1
      split
      · exact ih _ _ _ _ h1 (by omega) (by omega) (by omega)
      · exact ih _ _ _ _ (by omega) (by omega) (by omega) (by omega)
theorem pu_mbr {g : Nat} {s s' : me_M} {r : Int32} (e : m_br g s = (r, s')) (hg : g < 12) (hI : m_I s) : m_I s' ∧ m_F s s' ∧ (¬ r = (-1) → vp_in r 4 ∧ s' 10 r.toNatClampNeg = nI g) := by
  simp only [m_br] at e
  have h4 := pu_mb4 5 g (-1) 0 s (by omega) (by omega) (Or.inl rfl)
  generalize m_br_4 5 g (-1) 0 s = v4 at e h4
  split at e
  · have h41 := pu_mb41 5 g (-1) (nI 3) s (by unfold vp_in; decide) (by decide) (Or.inl rfl)
    generalize m_br_41 5 g (-1) (nI 3) s = v41 at e h41
    split at e
    · have h83 := pu_mb83 4 g 0 1 s (by omega) (by omega) (by omega) (by omega)
      generalize m_br_83 4 g 0 1 s = v83 at e h83
      have hv : vp_in (nI v83) 4 := vp_in_nI h83 (by decide)
      have hc : (nI v83).toNatClampNeg = v83 := nI_clamp (by omega)
      split at e
      · obtain ⟨e8, e9⟩ := Prod.mk.inj e; subst e8; subst e9
        have gF := pu_mfill (s := s) (f := v83) (g := g) (n := 17) (w := nI v83) (y := me_st s 10 v83 (nI g) 1 (4 * g)) hg hI
        generalize m_br_176 17 g (nI v83) 0 (me_st (me_st (me_st s 10 v83 (nI g)) 11 v83 (me_st s 10 v83 (nI g) 1 (4 * g))) 12 v83 (nI 0)) = s1 at gF
        have gT := pu_mtail (s := s1) (f := v83) (x := s1 0 16 + nI 1) (y := me_st s1 0 16 (s1 0 16 + nI 1) 0 16) gF.1
        exact ⟨gT.1, pu_F_tr gF.2.1 gT.2.1, fun _ => ⟨hv, by rw [hc, gT.2.2]; exact gF.2.2⟩⟩
      · generalize e3 : m_cl (nI v83) s = q at e
        obtain ⟨r3, s3⟩ := q
        have gC := pu_cl e3 hI
        split at e
        · obtain ⟨e8, e9⟩ := Prod.mk.inj e; subst e8; subst e9
          exact ⟨gC.1, gC.2, fun h => absurd rfl h⟩
        · obtain ⟨e8, e9⟩ := Prod.mk.inj e; subst e8; subst e9
          have gF := pu_mfill (s := s3) (f := v83) (g := g) (n := 17) (w := nI v83) (y := me_st s3 10 v83 (nI g) 1 (4 * g)) hg gC.1
          generalize m_br_176 17 g (nI v83) 0 (me_st (me_st (me_st s3 10 v83 (nI g)) 11 v83 (me_st s3 10 v83 (nI g) 1 (4 * g))) 12 v83 (nI 0)) = s1 at gF
          have gT := pu_mtail (s := s1) (f := v83) (x := s1 0 16 + nI 1) (y := me_st s1 0 16 (s1 0 16 + nI 1) 0 16) gF.1
          exact ⟨gT.1, pu_F_tr gC.2 (pu_F_tr gF.2.1 gT.2.1), fun _ => ⟨hv, by rw [hc, gT.2.2]; exact gF.2.2⟩⟩
    · rename_i c41
      have hv := h41.resolve_left c41
      obtain ⟨e8, e9⟩ := Prod.mk.inj e; subst e8; subst e9
      have gF := pu_mfill (s := s) (f := v41.toNatClampNeg) (g := g) (n := 17) (w := v41) (y := me_st s 10 v41.toNatClampNeg (nI g) 1 (4 * g)) hg hI
      generalize m_br_176 17 g v41 0 (me_st (me_st (me_st s 10 v41.toNatClampNeg (nI g)) 11 v41.toNatClampNeg (me_st s 10 v41.toNatClampNeg (nI g) 1 (4 * g))) 12 v41.toNatClampNeg (nI 0)) = s1 at gF
      have gT := pu_mtail (s := s1) (f := v41.toNatClampNeg) (x := s1 0 16 + nI 1) (y := me_st s1 0 16 (s1 0 16 + nI 1) 0 16) gF.1
      exact ⟨gT.1, pu_F_tr gF.2.1 gT.2.1, fun _ => ⟨hv, by rw [gT.2.2]; exact gF.2.2⟩⟩
  · rename_i c4
    obtain ⟨k, hk, h5, h6⟩ := h4.resolve_left c4
    obtain ⟨e8, e9⟩ := Prod.mk.inj e; subst e8; subst e9
    have hc : v4.toNatClampNeg = k := by rw [h5, nI_clamp (by omega)]
    have gT := pu_mtail (s := s) (f := v4.toNatClampNeg) (x := s 0 16 + nI 1) (y := me_st s 0 16 (s 0 16 + nI 1) 0 16) hI
    exact ⟨gT.1, gT.2.1, fun _ => ⟨by rw [h5]; exact vp_in_nI hk (by decide), by rw [gT.2.2, hc]; exact h6⟩⟩
theorem pu_mbr_in {g : Nat} {s s' : me_M} {r : Int32} (e : m_br g s = (r, s')) (hg : g < 12) (hI : m_I s) (hr : ¬ r = (-1)) : vp_in r 4 := ((pu_mbr e hg hI).2.2 hr).1
theorem pu_mend2 : ∀ (n i : Nat) (s s' : me_M) (r : Int32), m_mend_2 n i s = (r, s') → m_I s → m_I s' ∧ m_F s s' := by
  intro n
  induction n with
  | zero => intro i s s' r h hI; cases h; exact ⟨hI, pu_F_rf _⟩
  | succ n ih =>
    intro i s s' r h hI
    simp only [m_mend_2] at h
    split at h
    · cases h; exact ⟨hI, pu_F_rf _⟩
    · split at h
      · generalize m_mend_23 5 i (-1) 0 s = v at h
        split at h
        · exact ih _ _ _ _ h hI
        · generalize e : m_wh i (s 3 (4 * v.toNatClampNeg)) v.toNatClampNeg (nI 0) s = q at h
          obtain ⟨r1, s1⟩ := q
          have g1 := pu_wh_I e hI
          have g2 := pu_wh_F e
          split at h
          · cases h; exact ⟨g1, g2⟩
          · have k1 : m_I (me_st s1 0 28 (s1 0 28 + nI 1)) := pu_mI_of (fun k hk => me_st_s _ _ _ (by omega)) (fun u hu => me_st_c _ _ _ (by omega)) g1
            have k2 : m_F s1 (me_st s1 0 28 (s1 0 28 + nI 1)) := pu_F_of (fun k hk => me_st_s _ _ _ (by omega)) (me_st_c _ _ _ (by decide))
            have g := ih _ _ _ _ h k1
            exact ⟨g.1, pu_F_tr g2 (pu_F_tr k2 g.2)⟩
      · exact ih _ _ _ _ h hI
theorem pu_mmend {s s' : me_M} {r : Int32} (h : m_mend s = (r, s')) (hI : m_I s) : m_I s' ∧ m_F s s' := pu_mend2 _ _ _ _ _ h hI
theorem pu_mlw2_w : ∀ (n i : Nat) (s s' : me_M) (r : Int32), m_lw_2 n i s = (r, s') → ¬ r = 0 → s' 0 18 = nI 0 := by
  intro n
  induction n with
  | zero => intro i s s' r h hr; obtain ⟨e8, e9⟩ := Prod.mk.inj h; exact absurd e8.symm hr
  | succ n ih =>
    intro i s s' r h hr
    simp only [m_lw_2] at h
    split at h
    · obtain ⟨e8, e9⟩ := Prod.mk.inj h; subst e9; exact me_st_self _ _ _ _
    · split at h
      · obtain ⟨e8, e9⟩ := Prod.mk.inj h; exact absurd (e8.symm.trans nI_0) hr
      · exact ih _ _ _ _ h hr
theorem pu_cl_w {o r : Int32} {s s' : me_M} (h : m_cl o s = (r, s')) (hI : m_I s) (hr : ¬ r = 0) : s' 0 18 = nI 0 := by
  simp only [m_cl] at h
  generalize e : m_lw s = q at h
  obtain ⟨r1, s1⟩ := q
  dsimp only at h
  split at h
  · obtain ⟨e8, e9⟩ := Prod.mk.inj h; exact absurd (e8.symm.trans nI_0) hr
  · rename_i c1
    exact ((pu_cl13 _ _ _ _ _ _ _ h (pu_mlw_I e hI)).2.2.2.2 (pu_mlw2_w _ _ _ _ _ e c1)).1
theorem pu_mchk {s s' : me_M} {r : Int32} (h : m_chk s = (r, s')) (hI : m_I s) : m_I s' ∧ s' 0 17 = s 0 17 ∧ s' 0 0 = s 0 0 := by
  simp only [m_chk] at h
  generalize e : m_cl (-1) s = q at h
  obtain ⟨r1, s1⟩ := q
  dsimp only at h
  have g := pu_cl e hI
  split at h
  · cases h; exact ⟨g.1, g.2.1, g.2.2.2.1⟩
  · rename_i c1
    generalize e2 : m_mw s1 = q at h
    obtain ⟨r2, s2⟩ := q
    dsimp only at h
    have g1 := pu_mw_I e2 g.1
    have g2 := pu_F_tr g.2 (pu_mw_F e2)
    split at h
    · cases h; exact ⟨g1, g2.1, g2.2.2.1⟩
    · obtain ⟨e8, e9⟩ := Prod.mk.inj h; subst e9
      have hw : s2 0 18 = nI 0 := ((pu_mw_F e2).2.2.2 (pu_cl_w e hI c1)).1
      obtain ⟨i1, i2, i3, i4, i5, i6, i7⟩ := g1
      refine ⟨⟨?_, fun j hj => ?_, fun k hk hd => ?_, fun q hq => ?_, ?_, ?_, ?_⟩, ?_, ?_⟩
      · rw [me_st_s _ _ _ (by decide)]; exact i1
      · rw [me_st_c _ _ _ (by decide), me_st_c _ _ _ (by decide), me_st_c _ _ _ (by decide)]; exact i2 j hj
      · rw [me_st_c _ _ _ (by decide)] at hd ⊢; exact i3 k hk hd
      · rw [me_st_c _ _ _ (by decide), me_st_c _ _ _ (by decide)]; exact i4 q hq
      · rw [me_st_self]; exact i6
      · rw [me_st_s _ _ _ (by decide)]; exact i6
      · rw [me_st_self, me_st_s _ _ _ (by decide), me_st_s _ _ _ (by decide), hw, nI_clamp (by decide)]; omega
      · rw [me_st_s _ _ _ (by decide)]; exact g2.1
      · rw [me_st_s _ _ _ (by decide)]; exact g2.2.2.1
theorem pu_ref {x y r : Int32} {s s' : me_M} (e : m_ref x y s = (r, s')) (h0 : s 0 0 = nI 0) (hy : ¬ y ≤ 0) : (x = 0 ∧ r = nI 0 ∧ s' = s) ∨ (¬ x = 0 ∧ r = nI 1 ∧ s' = me_st s 0 0 y) := by
  simp only [m_ref] at e
  rw [if_pos (h0.trans nI_0)] at e
  split at e
  · rename_i c1
    rw [if_pos (by rw [h0, nI_0]; decide)] at e
    obtain ⟨e8, e9⟩ := Prod.mk.inj e
    exact Or.inl ⟨c1, e8.symm, e9.symm⟩
  · rename_i c1
    rw [me_st_self, if_neg hy] at e
    obtain ⟨e8, e9⟩ := Prod.mk.inj e
    exact Or.inr ⟨c1, e8.symm, e9.symm⟩
theorem pu_th_I {s s' : me_M} {x : Int32} (e : me_st s 0 0 x = s') (hI : m_I s) : m_I s' := by
  subst e
  exact pu_mI_of (fun k hk => me_st_s _ _ _ (by omega)) (fun u hu => me_st_c _ _ _ (by omega)) hI
theorem pu_ref_I {x y r : Int32} {s s' : me_M} (e : m_ref x y s = (r, s')) (hI : m_I s) : m_I s' := by
  simp only [m_ref] at e
  have k := pu_th_I (s := s) (x := y) rfl hI
  split at e
  · split at e
    · split at e <;> (obtain ⟨e8, e9⟩ := Prod.mk.inj e; subst e9; exact hI)
    · split at e <;> (obtain ⟨e8, e9⟩ := Prod.mk.inj e; subst e9; exact k)
  · split at e <;> (obtain ⟨e8, e9⟩ := Prod.mk.inj e; subst e9; exact hI)
theorem pu_inn {x : Int32} {k : Nat} (hk : k + 1 < 2 ^ 31) (h : ¬ m_in x (nI 0) (nI k) = 0) : vp_in x (k + 1) := by
  unfold m_in at h
  by_cases h1 : x < nI 0
  · rw [if_pos h1] at h; exact absurd nI_0 h
  · rw [if_neg h1] at h
    by_cases h2 : nI k < x
    · rw [if_pos h2] at h; exact absurd nI_0 h
    · rw [nI_0] at h1
      obtain ⟨j, hj, rfl⟩ := nI_of h1
      have := (not_congr (nI_ltI (a := k) (b := j) (by omega) hj)).mp h2
      exact vp_in_nI (by omega) hk
