/-! PURE M5: what a call that isn't refused knows of its numbers -/
theorem pu_ref0 {x y r : Int32} {s s' : me_M} (e : m_ref x y s = (r, s')) (h0 : s 0 0 = nI 0) (hy : ¬ y ≤ 0) (c : r = 0) : x = 0 ∧ s' = s := by
  rcases pu_ref e h0 hy with ⟨h1, -, h3⟩ | ⟨-, h2, -⟩
  · exact ⟨h1, h3⟩
  · exact absurd (h2.symm.trans c) (by decide)
theorem pu_thz {s s' : me_M} (e : me_st s 0 0 (nI 0) = s') : s' 0 0 = nI 0 := by rw [← e, me_st_self]
theorem pu_or {x y r : Int32} {s s' : me_M} {P : Prop} (e : m_ref x y s = (r, s')) (h0 : s 0 0 = nI 0) (hy : ¬ y ≤ 0) (c : r = 0) (h : x = nI 1 ∨ (x = nI 0 ∧ P)) : P := by
  rcases h with h | h
  · exact absurd (h.symm.trans (pu_ref0 e h0 hy c).1) (by decide)
  · exact h.2
theorem pu_ge3 {b : Int32} (h : vp_in b 19) (h0 : ¬ b = 0) (h1 : ¬ b = nI 1) (h2 : ¬ b = nI 2) : 3 ≤ b.toNatClampNeg := by
  have e := me_ine h
  rcases Nat.lt_or_ge b.toNatClampNeg 3 with q | q
  · exfalso
    match hb : b.toNatClampNeg, q with
    | 0, _ => rw [hb] at e; exact h0 (e.trans nI_0)
    | 1, _ => rw [hb] at e; exact h1 e
    | 2, _ => rw [hb] at e; exact h2 e
  · exact q
/-- what may be asked of the disk -/
def m_G (a b d : Int32) : Prop := (a = 0 ∧ vp_in b 12 ∧ vp_in d 20) ∨ (a = nI 1 ∧ vp_in b 4 ∧ vp_in d 24) ∨ (a = nI 2 ∧ vp_in b 12 ∧ vp_in d 4) ∨ (a = nI 3 ∧ b = 0 ∧ d = 0)
theorem pu_g0 {a b d : Int32} (h : m_G a b d) (c : a = 0) : vp_in b 12 ∧ vp_in d 20 := by
  rcases h with h | h | h | h
  · exact h.2
  · exact absurd (h.1.symm.trans c) (by decide)
  · exact absurd (h.1.symm.trans c) (by decide)
  · exact absurd (h.1.symm.trans c) (by decide)
theorem pu_g1 {a b d : Int32} (h : m_G a b d) (c : a = nI 1) : vp_in b 4 ∧ vp_in d 24 := by
  rcases h with h | h | h | h
  · exact absurd (h.1.symm.trans c) (by decide)
  · exact h.2
  · exact absurd (h.1.symm.trans c) (by decide)
  · exact absurd (h.1.symm.trans c) (by decide)
theorem pu_g2 {a b d : Int32} (h : m_G a b d) (c0 : ¬ a = 0) (c1 : ¬ a = nI 1) (c3 : ¬ a = nI 3) : vp_in b 12 ∧ vp_in d 4 := by
  rcases h with h | h | h | h
  · exact absurd h.1 c0
  · exact absurd h.1 c1
  · exact h.2
  · exact absurd h.1 c3
/-- room for w changes -/
theorem pu_chg {a b w : Int32} (h1 : ¬ m_in a (nI 0) (nI 11) = 0) (h2 : ¬ m_in b (nI 0) (nI 15) = 0) (h3 : ¬ w < nI 1) (h4 : w ≤ nI 16 - b) : vp_in a 12 ∧ vp_in b 16 ∧ vp_in w 17 ∧ 1 ≤ w.toNatClampNeg ∧ b.toNatClampNeg + w.toNatClampNeg ≤ 16 := by
  have g1 := pu_inn (by decide) h1
  have g2 := pu_inn (by decide) h2
  have b2 := me_inb g2
  have e2 := me_ine g2
  have hw : ¬ w < 0 := fun q => h3 (Int32.lt_trans q (by decide))
  obtain ⟨j, hj, rfl⟩ := nI_of hw
  rw [e2, pk_sub (by omega)] at h4
  have g4 := (nI_leI hj (by omega)).mp h4
  have g3 := (not_congr (nI_ltI hj (by decide))).mp h3
  rw [nI_clamp hj]
  exact ⟨g1, g2, vp_in_nI (by omega) (by decide), by omega, by omega⟩
