/-! PURE E: bring -/
theorem pu_tail {s : me_M} {k : Nat} {x y : Int32} (hk : k < 4) (hI : k_I s) : k_I (me_st (me_st s 0 13 x) (94 + 2 * k) 4 y) ∧ me_st (me_st s 0 13 x) (94 + 2 * k) 4 y (94 + 2 * k) 1 = s (94 + 2 * k) 1 := by
  obtain ⟨i1, i2, i3, i4, i5, i6⟩ := hI
  have hf : ∀ (k' t : Nat), t ≠ 4 → me_st (me_st s 0 13 x) (94 + 2 * k) 4 y (94 + 2 * k') t = s (94 + 2 * k') t := fun k' t ht => by
    rw [me_st_eq, if_neg (by omega), me_st_c _ _ _ (by omega)]
  have h0 : ∀ t : Nat, t ≠ 13 → me_st (me_st s 0 13 x) (94 + 2 * k) 4 y 0 t = s 0 t := fun t ht => by
    rw [me_st_c _ _ _ (by omega), me_st_s _ _ _ ht]
  refine ⟨⟨fun k' hk' hd => ?_, fun u hu hv => ?_, ?_, ?_, ?_, ?_⟩, hf k 1 (by decide)⟩
  · rw [hf k' 3 (by decide)] at hd
    rw [hf k' 1 (by decide)]
    exact i1 k' hk' hd
  · rw [me_st_c _ _ _ (by omega), me_st_c _ _ _ (by omega)]; exact i2 u hu hv
  · rw [h0 11 (by decide)]; exact i3
  · rw [h0 12 (by decide)]; exact i4
  · rw [h0 11 (by decide), h0 12 (by decide)]; exact i5
  · rw [h0 3 (by decide)]; exact i6
theorem pu_br {g : Nat} {s s' : me_M} {r : Int32} (e : k_br g s = (r, s')) (hg : g < 12) (hI : k_I s) : k_I s' ∧ (¬ r = (-3) → vp_in r 4 ∧ s' (94 + 2 * r.toNatClampNeg) 1 = nI g) := by
  simp only [k_br] at e
  generalize e1 : k_fo (nI g) s = r1 at e
  split at e
  · generalize e2 : k_ff s = r2 at e
    have hv := pu_ff_in e2
    have hb := me_inb hv
    split at e
    · obtain ⟨e8, e9⟩ := Prod.mk.inj e; subst e8; subst e9
      have hF := pu_fill_I (k := r2.toNatClampNeg) (j := g) (x := nI g) hb hI
      have hT := pu_tail (x := k_fill r2.toNatClampNeg (nI g) g s 0 13 + nI 1) (y := me_st (k_fill r2.toNatClampNeg (nI g) g s) 0 13 (k_fill r2.toNatClampNeg (nI g) g s 0 13 + nI 1) 0 13) hb hF.1
      exact ⟨hT.1, fun _ => ⟨hv, hT.2.trans hF.2⟩⟩
    · generalize e3 : k_cd r2.toNatClampNeg r2.toNatClampNeg s = q at e
      obtain ⟨r3, s3⟩ := q
      have hJ := pu_cd_I e3 (by omega) hI
      split at e
      · obtain ⟨e8, e9⟩ := Prod.mk.inj e; subst e8; subst e9
        exact ⟨hJ, fun h => absurd rfl h⟩
      · obtain ⟨e8, e9⟩ := Prod.mk.inj e; subst e8; subst e9
        have hF := pu_fill_I (k := r2.toNatClampNeg) (j := g) (x := nI g) hb hJ
        have hT := pu_tail (x := k_fill r2.toNatClampNeg (nI g) g s3 0 13 + nI 1) (y := me_st (k_fill r2.toNatClampNeg (nI g) g s3) 0 13 (k_fill r2.toNatClampNeg (nI g) g s3 0 13 + nI 1) 0 13) hb hF.1
        exact ⟨hT.1, fun _ => ⟨hv, hT.2.trans hF.2⟩⟩
  · rename_i c1
    obtain ⟨k, h1, h2, h3, -⟩ := pu_fo e1 c1
    obtain ⟨e8, e9⟩ := Prod.mk.inj e; subst e8; subst e9
    have hb : r1.toNatClampNeg = k := by rw [h2, nI_clamp (by omega)]
    rw [hb]
    have hT := pu_tail (k := k) (x := s 0 13 + nI 1) (y := me_st s 0 13 (s 0 13 + nI 1) 0 13) h1 hI
    exact ⟨hT.1, fun _ => ⟨pu_fo_in e1 c1, hT.2.trans h3⟩⟩
theorem pu_br_I {g : Nat} {s s' : me_M} {r : Int32} (e : k_br g s = (r, s')) (hg : g < 12) (hI : k_I s) : k_I s' := (pu_br e hg hI).1
theorem pu_br_in {g : Nat} {s s' : me_M} {r : Int32} (e : k_br g s = (r, s')) (hg : g < 12) (hI : k_I s) (hr : ¬ r = (-3)) : vp_in r 4 := ((pu_br e hg hI).2 hr).1
theorem pu_br_pg {g : Nat} {s s' : me_M} {r : Int32} (e : k_br g s = (r, s')) (hg : g < 12) (hI : k_I s) (hr : ¬ r = (-3)) : s' (94 + 2 * r.toNatClampNeg) 1 = nI g := ((pu_br e hg hI).2 hr).2
theorem pu_cw_I {k t : Nat} {x y : Int32} {s s' : me_M} (e : k_cw k t x y s = s') (hk : k < 4) (hI : k_I s) (hp : vp_in (s (94 + 2 * k) 1) 12) : k_I s' := by
  simp only [k_cw] at e
  subst e
  obtain ⟨i1, i2, i3, i4, i5, i6⟩ := hI
  refine ⟨fun k' hk' hd => ?_, fun u hu hv => ?_, ?_, ?_, ?_, ?_⟩
  · by_cases hkk : k' = k
    · subst hkk
      rw [me_st_s _ _ _ (by decide), me_st_s _ _ _ (by decide), me_st_c _ _ _ (by omega)]
      exact hp
    · rw [me_st_c _ _ _ (by omega), me_st_c _ _ _ (by omega), me_st_c _ _ _ (by omega)] at hd ⊢
      exact i1 k' hk' hd
  all_goals (repeat rw [me_st_c _ _ _ (by omega)])
  · exact i2 u hu hv
  · exact i3
  · exact i4
  · exact i5
  · exact i6
