/-! PURE A: numbers modulo 12; what the small functions leave alone -/
theorem pu_nn (y : Int32) : 0 ≤ y ↔ y.toBitVec.msb = false := by
  rw [Int32.le_iff_toInt_le, BitVec.msb_eq_toInt]
  show (0 : Int) ≤ y.toBitVec.toInt ↔ _
  simp
theorem pu_xs (x : Int32) : (0 ≤ x ^^^ nI 12) ↔ 0 ≤ x := by
  rw [pu_nn, pu_nn]
  have h : (nI 12).toBitVec.msb = false := by decide
  have h2 : (x ^^^ nI 12).toBitVec = x.toBitVec ^^^ (nI 12).toBitVec := rfl
  rw [h2, BitVec.msb_xor, h]
  simp
theorem pu_fm {i : Nat} (h : i < 2 ^ 31) : k_fm (nI i) (nI 12) = nI (i % 12) := by
  have h1 : nI i - nI i / nI 12 * nI 12 = nI (i % 12) := pk_rem h (by decide) (by decide)
  unfold k_fm
  rw [if_pos ((pu_xs _).mpr (nI_pos' h)), h1]
theorem pu_fm_in (x : Int32) : vp_in (k_fm x (nI 12)) 12 := by
  have e := rem_toInt x (nI 12)
  have hm : (nI 12).toInt = 12 := nI_toInt (by decide)
  rw [hm] at e
  have t := tmod_bounds (a := x.toInt) (M := 12) (by decide)
  rw [vp_in_iff]
  unfold k_fm
  by_cases hx : 0 ≤ x
  · rw [if_pos ((pu_xs _).mpr hx), e]
    have h0 : 0 ≤ x.toInt := by
      have := Int32.le_iff_toInt_le.mp hx
      exact this
    have := Int.tmod_nonneg 12 h0
    omega
  · rw [if_neg (fun h => hx ((pu_xs _).mp h))]
    have h0 : ¬ 0 ≤ x.toInt := fun h => hx (Int32.le_iff_toInt_le.mpr h)
    by_cases hz : x - x / nI 12 * nI 12 = 0
    · rw [if_pos hz, hz]
      decide
    · rw [if_neg hz, Jvm.Kit.i32_add (by rw [e, hm]; omega) (by rw [e, hm]; omega), e, hm]
      have h3 : x.toInt.tmod 12 ≠ 0 := fun h => hz (Int32.toInt_inj.mp (by rw [e, h]; rfl))
      have h4 : x.toInt.tmod 12 ≤ 0 := by
        have := Int.tmod_nonneg 12 (a := -x.toInt) (by omega)
        rw [Int.neg_tmod] at this
        omega
      omega
/-- what the methods need of the memory so that no index leaves its row -/
def k_I (σ : me_M) : Prop := (∀ k, k < 4 → ¬ σ (94 + 2 * k) 3 = 0 → vp_in (σ (94 + 2 * k) 1) 12) ∧ (∀ a, 70 ≤ a → a < 94 → vp_in (σ a 1) 12 ∧ vp_in (σ a 2) 16) ∧ vp_in (σ 0 11) 100000 ∧ vp_in (σ 0 12) 100000 ∧ (σ 0 11).toNatClampNeg ≤ (σ 0 12).toNatClampNeg ∧ vp_in (σ 0 3) 100000
theorem pu_ph {σ σ' : me_M} {r : Int32} (h : k_ph σ = (r, σ')) : (∀ q, q ≠ 0 → σ' q = σ q) ∧ (∀ k, k ≠ 4 → k ≠ 6 → σ' 0 k = σ 0 k) := by
  simp only [k_ph] at h
  split at h
  · cases h
    exact ⟨fun _ _ => rfl, fun _ _ _ => rfl⟩
  · split at h
    · cases h
      exact ⟨fun q hq => me_st_c _ _ _ hq, fun k h4 h6 => me_st_s _ _ _ h6⟩
    · cases h
      exact ⟨fun q hq => by rw [me_st_c _ _ _ hq, me_st_c _ _ _ hq], fun k h4 h6 => by rw [me_st_s _ _ _ h6, me_st_s _ _ _ h4]⟩
theorem pu_set {a : Nat} {x0 x1 x2 x3 : Int32} {σ : me_M} {q : Nat} (h : q ≠ a) : k_set a x0 x1 x2 x3 σ q = σ q := by
  simp only [k_set]
  rw [me_st_c _ _ _ h, me_st_c _ _ _ h, me_st_c _ _ _ h, me_st_c _ _ _ h]
theorem pu_set0 (a : Nat) (x0 x1 x2 x3 : Int32) (σ : me_M) : k_set a x0 x1 x2 x3 σ a 0 = x0 ∧ k_set a x0 x1 x2 x3 σ a 1 = x1 ∧ k_set a x0 x1 x2 x3 σ a 2 = x2 ∧ k_set a x0 x1 x2 x3 σ a 3 = x3 := by
  simp [k_set, me_st_eq]
theorem pu_put9 : ∀ (n j d : Nat) (x y : Int32) (q i : Nat) (s : me_M) (u : Nat), (u < 6 + 4 * j + 1 ∨ 6 + 4 * j + 3 < u) → k_put_9 n j d x y q i s u = s u := by
  intro n
  induction n with
  | zero => intros; rfl
  | succ n ih =>
    intro j d x y q i s u hu
    simp only [k_put_9]
    split
    · rw [me_st_c _ _ _ (by omega), me_st_c _ _ _ (by omega)]
    · rw [ih _ _ _ _ _ _ _ _ hu, me_st_c _ _ _ (by omega)]
