/-! PURE M6: for recover and change of the reference -/
theorem pu_rlt {s : me_M} {m0 i : Nat} (hm : m0 ≤ i ∧ i ≤ m0 + 12 ∧ m0 < 100000) (hlog : ∀ j, m0 ≤ j → j < i → s 6 (j % 12) = nI j) (c : s 6 (i % 12) = nI i) : i < m0 + 12 := by
  rcases Nat.lt_or_ge i (m0 + 12) with h | h
  · exact h
  · have hi : i = m0 + 12 := by omega
    have h1 := hlog m0 (Nat.le_refl _) (by omega)
    rw [hi, Nat.add_mod_right] at c
    have := (nI_eq (by omega) (by omega)).mp (h1.symm.trans c)
    omega
theorem pu_rlog {s s' : me_M} {m0 i : Nat} (h6 : s' 6 = s 6) (hlog : ∀ j, m0 ≤ j → j < i → s 6 (j % 12) = nI j) (c : s 6 (i % 12) = nI i) : ∀ j, m0 ≤ j → j < i + 1 → s' 6 (j % 12) = nI j := by
  intro j h1 h2
  rw [h6]
  by_cases hj : j = i
  · rw [hj]; exact c
  · exact hlog j h1 (by omega)
theorem pu_rst {s1 s2 s3 s4 : me_M} {t f : Nat} {x y : Int32} (e1 : me_st s1 14 t x = s2) (e2 : me_st s2 11 f y = s3) (e3 : me_st s3 12 f (nI 1) = s4) (hp : vp_in (s1 10 f) 12) (hI : m_I s1) : m_I s4 ∧ s4 0 = s1 0 ∧ s4 6 = s1 6 ∧ s4 10 = s1 10 := by
  subst e3; subst e2; subst e1
  obtain ⟨i1, i2, i3, i4, i5, i6, i7⟩ := hI
  have hu : ∀ u : Nat, u ≠ 14 → u ≠ 11 → u ≠ 12 → me_st (me_st (me_st s1 14 t x) 11 f y) 12 f (nI 1) u = s1 u := fun u h1 h2 h3 => by
    rw [me_st_c _ _ _ h3, me_st_c _ _ _ h2, me_st_c _ _ _ h1]
  have c0 := hu 0 (by decide) (by decide) (by decide)
  refine ⟨⟨?_, fun j hj => ?_, fun k hk hd => ?_, fun q hq => ?_, ?_, ?_, ?_⟩, c0, hu 6 (by decide) (by decide) (by decide), hu 10 (by decide) (by decide) (by decide)⟩
  · rw [c0]; exact i1
  · rw [hu 15 (by decide) (by decide) (by decide), hu 16 (by decide) (by decide) (by decide), hu 17 (by decide) (by decide) (by decide)]; exact i2 j hj
  · rw [hu 10 (by decide) (by decide) (by decide)]
    by_cases hkf : k = f
    · rw [hkf]; exact hp
    · rw [me_st_eq, if_neg (by omega), me_st_c _ _ _ (by decide), me_st_c _ _ _ (by decide)] at hd
      exact i3 k hk hd
  · rw [hu 7 (by decide) (by decide) (by decide), hu 8 (by decide) (by decide) (by decide)]; exact i4 q hq
  · rw [c0]; exact i5
  · rw [c0]; exact i6
  · rw [c0]; exact i7
theorem pu_mroom {s : me_M} {w r : Int32} (hI : m_I s) (hN : vp_in (s 0 17) 99000) (e : m_room s = r) (hw : vp_in w 17) (h1 : 1 ≤ w.toNatClampNeg) (c : w ≤ r) : m_I s ∧ vp_in (s 0 17) 99000 ∧ (s 0 18).toNatClampNeg + w.toNatClampNeg ≤ 12 := by
  refine ⟨hI, hN, ?_⟩
  obtain ⟨i1, i2, i3, i4, i5, i6, i7⟩ := hI
  have b5 := me_inb i5
  have bN := me_inb hN
  have bw := me_inb hw
  have e10 := me_ine i5
  have e17 := me_ine hN
  have ew := me_ine hw
  simp only [m_room] at e
  rw [← e, e10, e17, nI_add] at c
  rcases Nat.lt_or_ge ((s 0 10).toNatClampNeg + 12) (s 0 17).toNatClampNeg with h | h
  · exfalso
    have hneg := pk_sneg (a := (s 0 10).toNatClampNeg + 12) (b := (s 0 17).toNatClampNeg) (by omega) h
    have h0 : 0 ≤ w := by rw [ew]; exact nI_pos' (by omega)
    exact absurd (Int32.lt_of_le_of_lt (Int32.le_trans h0 c) hneg) (by decide)
  · rw [pk_sub h, ew] at c
    have := (nI_leI (by omega) (by omega)).mp c
    omega
theorem pu_mbr_w {g : Nat} {s s' : me_M} {r : Int32} (e : m_br g s = (r, s')) (hI : m_I s) (hr : ¬ r = (-1)) : s' 0 18 = s 0 18 ∨ s' 0 18 = nI 0 := by
  have hT : ∀ (s1 : me_M) (f : Nat) (x y : Int32), me_st (me_st s1 0 16 x) 13 f y 0 18 = s1 0 18 := fun s1 f x y => by
    rw [me_st_c _ _ _ (by decide), me_st_s _ _ _ (by decide)]
  have hF : ∀ (s1 : me_M) (f n : Nat) (w y : Int32), m_br_176 n g w 0 (me_st (me_st (me_st s1 10 f (nI g)) 11 f y) 12 f (nI 0)) 0 18 = s1 0 18 := fun s1 f n w y => by
    rw [pu_mb176 _ _ _ _ _ _ (by decide), me_st_c _ _ _ (by decide), me_st_c _ _ _ (by decide), me_st_c _ _ _ (by decide)]
  simp only [m_br] at e
  generalize m_br_4 5 g (-1) 0 s = v4 at e
  split at e
  · generalize m_br_41 5 g (-1) (nI 3) s = v41 at e
    split at e
    · generalize m_br_83 4 g 0 1 s = v83 at e
      split at e
      · obtain ⟨e8, e9⟩ := Prod.mk.inj e; subst e8; subst e9
        rw [hT, hF]; exact Or.inl rfl
      · generalize e3 : m_cl (nI v83) s = q at e
        obtain ⟨r3, s3⟩ := q
        dsimp only at e
        split at e
        · obtain ⟨e8, e9⟩ := Prod.mk.inj e; exact absurd e8.symm hr
        · rename_i c3
          obtain ⟨e8, e9⟩ := Prod.mk.inj e; subst e8; subst e9
          rw [hT, hF]; exact Or.inr (pu_cl_w e3 hI c3)
    · obtain ⟨e8, e9⟩ := Prod.mk.inj e; subst e8; subst e9
      rw [hT, hF]; exact Or.inl rfl
  · obtain ⟨e8, e9⟩ := Prod.mk.inj e; subst e8; subst e9
    rw [hT]; exact Or.inl rfl
/-- one change is done: it waits -/
theorem pu_mcst {s1 s2 s3 s4 s5 s6 s7 s8 s9 s10 : me_M} {t f w d g : Nat} {x z : Int32} (e1 : me_st s1 14 t x = s2) (e2 : me_st s2 11 f (s2 0 17) = s3) (e3 : me_st s3 12 f (nI 1) = s4)
    (e4 : me_st s4 15 w (s4 0 17) = s5) (e5 : me_st s5 16 w (nI g) = s6) (e6 : me_st s6 17 w (nI d) = s7) (e7 : me_st s7 18 w z = s8) (e8 : me_st s8 0 18 (s8 0 18 + nI 1) = s9) (e9 : me_st s9 0 17 (s9 0 17 + nI 1) = s10)
    (hp : vp_in (s1 10 f) 12) (hg : g < 12) (hd : d < 16) (hw : (s1 0 18).toNatClampNeg < 12) (hn : (s1 0 17).toNatClampNeg < 99999) (hI : m_I s1) :
    m_I s10 ∧ (s10 0 18).toNatClampNeg = (s1 0 18).toNatClampNeg + 1 ∧ (s10 0 17).toNatClampNeg = (s1 0 17).toNatClampNeg + 1 := by
  obtain ⟨hI4, c0, c6, c10⟩ := pu_rst e1 e2 e3 hp hI
  obtain ⟨i1, i2, i3, i4, i5, i6, i7⟩ := hI4
  rw [← c0] at hw hn ⊢
  clear c0 c6 c10 e1 e2 e3 hI hp
  have hu : ∀ u : Nat, u ≠ 0 → u ≠ 15 → u ≠ 16 → u ≠ 17 → u ≠ 18 → s10 u = s4 u := fun u h0 h1 h2 h3 h5 => by
    rw [← e9, ← e8, ← e7, ← e6, ← e5, ← e4, me_st_c _ _ _ h0, me_st_c _ _ _ h0, me_st_c _ _ _ h5, me_st_c _ _ _ h3, me_st_c _ _ _ h2, me_st_c _ _ _ h1]
  have h80 : s8 0 = s4 0 := by rw [← e7, ← e6, ← e5, ← e4, me_st_c _ _ _ (by decide), me_st_c _ _ _ (by decide), me_st_c _ _ _ (by decide), me_st_c _ _ _ (by decide)]
  have h0 : ∀ k : Nat, k ≠ 17 → k ≠ 18 → s10 0 k = s4 0 k := fun k h1 h2 => by rw [← e9, ← e8, me_st_s _ _ _ h1, me_st_s _ _ _ h2, h80]
  have h18 : s10 0 18 = nI ((s4 0 18).toNatClampNeg + 1) := by
    rw [← e9, me_st_s _ _ _ (by decide), ← e8, me_st_self, h80]
    conv => lhs; rw [me_ine i1]
    exact nI_add _ _
  have h17 : s10 0 17 = nI ((s4 0 17).toNatClampNeg + 1) := by
    rw [← e9, me_st_self, ← e8, me_st_s _ _ _ (by decide), h80]
    conv => lhs; rw [me_ine i6]
    exact nI_add _ _
  have k18 : (s10 0 18).toNatClampNeg = (s4 0 18).toNatClampNeg + 1 := by rw [h18, nI_clamp (by omega)]
  have k17 : (s10 0 17).toNatClampNeg = (s4 0 17).toNatClampNeg + 1 := by rw [h17, nI_clamp (by omega)]
  have e15 : ∀ k, s10 15 k = if k = w then s4 0 17 else s4 15 k := fun k => by
    rw [← e9, ← e8, ← e7, ← e6, ← e5, me_st_c _ _ _ (by decide), me_st_c _ _ _ (by decide), me_st_c _ _ _ (by decide), me_st_c _ _ _ (by decide), me_st_c _ _ _ (by decide), ← e4, me_st_eq]; simp
  have e16 : ∀ k, s10 16 k = if k = w then nI g else s4 16 k := fun k => by
    rw [← e9, ← e8, ← e7, ← e6, me_st_c _ _ _ (by decide), me_st_c _ _ _ (by decide), me_st_c _ _ _ (by decide), me_st_c _ _ _ (by decide), ← e5, me_st_eq, ← e4, me_st_c _ _ _ (by decide)]; simp
  have e17 : ∀ k, s10 17 k = if k = w then nI d else s4 17 k := fun k => by
    rw [← e9, ← e8, ← e7, me_st_c _ _ _ (by decide), me_st_c _ _ _ (by decide), me_st_c _ _ _ (by decide), ← e6, me_st_eq, ← e5, ← e4, me_st_c _ _ _ (by decide), me_st_c _ _ _ (by decide)]; simp
  refine ⟨⟨?_, fun j hj => ?_, fun k hk hd => ?_, fun q hq => ?_, ?_, ?_, ?_⟩, k18, k17⟩
  · rw [h18]; exact vp_in_nI (by omega) (by decide)
  · rw [e15, e16, e17]
    by_cases hjw : j = w
    · rw [if_pos hjw, if_pos hjw, if_pos hjw]
      refine ⟨?_, vp_in_nI hg (by decide), vp_in_nI hd (by decide)⟩
      rw [me_ine i6]; exact vp_in_nI (by omega) (by decide)
    · rw [if_neg hjw, if_neg hjw, if_neg hjw]; exact i2 j hj
  · rw [hu 12 (by decide) (by decide) (by decide) (by decide) (by decide)] at hd
    rw [hu 10 (by decide) (by decide) (by decide) (by decide) (by decide)]; exact i3 k hk hd
  · rw [hu 7 (by decide) (by decide) (by decide) (by decide) (by decide), hu 8 (by decide) (by decide) (by decide) (by decide) (by decide)]; exact i4 q hq
  · rw [h0 10 (by decide) (by decide)]; exact i5
  · rw [h17]; exact vp_in_nI (by omega) (by decide)
  · rw [k18, k17, h0 10 (by decide) (by decide)]; omega
