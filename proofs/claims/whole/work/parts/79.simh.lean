/-! SIMULATION 8: the calls that change little -/
def r_ans (B : Nat) (f : me_F) (c1 c2 q : Int32) (τ' : me_M) : Prop := rl B f.2.2 τ' ∧ τ' 0 0 = (if f.1 = 0 then nI 0 else if f.1 = 1 then c1 else c2) ∧ (f.1 = 0 → f.2.1 = q)
theorem rl_t0 {B : Nat} {σ τ : me_M} (x : Int32) (h : rl B σ τ) : rl B σ (me_st τ 0 0 x) := by
  have g3 : ∀ a, a ≠ 0 → me_st τ 0 0 x a = τ a := fun a ha => me_st_c τ _ _ ha
  have g4 : ∀ k, k ≠ 0 → me_st τ 0 0 x 0 k = τ 0 k := fun k hk => me_st_s τ 0 _ hk
  generalize me_st τ 0 0 x = τ' at *
  obtain ⟨hD, ⟨p0, p1, p2, p3, p4⟩, hX⟩ := h
  refine ⟨r_D_t (fun a _ _ => g3 a (by omega)) hD, ⟨?_, ?_, ?_, ?_, ?_⟩, r_X_of (fun _ _ => rfl) (fun _ _ => rfl) (fun a ha => g3 a (by omega)) (fun k hk => g4 k (by omega)) hX⟩
  · rw [g4 24 (by omega)]; exact p0
  · rw [g4 26 (by omega)]; exact p1
  · rw [g4 27 (by omega)]; exact p2
  · rw [g4 28 (by omega)]; exact p3
  · rw [g4 23 (by omega)]; exact p4
theorem m_ref_no {y : Int32} {s : me_M} (h : s 0 0 = nI 0) : m_ref (nI 0) y s = (nI 0, s) := by
  unfold m_ref
  rw [h, if_pos nI_0, if_pos nI_0, if_pos (by decide)]
theorem m_ref_yes {x : Int32} {n : Nat} {s : me_M} (h : s 0 0 = nI 0) (hx : ¬ x = 0) (h0 : 0 < n) (hn : n < 2 ^ 31) : m_ref x (nI n) s = (nI 1, me_st s 0 0 (nI n)) := by
  unfold m_ref
  rw [h, if_pos nI_0, if_neg hx]
  dsimp only
  rw [me_st_self, if_neg (nI_nle h0 hn)]
theorem rl_dn {B : Nat} {σ τ : me_M} (h : rl B σ τ) : σ 0 5 = τ 0 25 := h.2.2.2.2.2.2.2.2.2.2.2.1
theorem sim_got {B : Nat} {σ τ : me_M} (h : rl B σ τ) : rl B σ (m_got τ).2 ∧ k_got σ = (m_got τ).1 := by
  refine ⟨rl_t0 _ h, ?_⟩
  show σ 0 14 = me_st τ 0 0 (nI 0) 0 23
  rw [me_st_s _ _ _ (by omega)]
  exact h.2.1.2.2.2.2
theorem sim_lose {B : Nat} {σ τ : me_M} {r : Int32} {σ' : me_M} (h : r_f B σ τ) (e : k_lose σ = (r, σ')) : r = -3 ∧ rl B σ' τ := by
  simp only [k_lose] at e
  cases e
  exact ⟨rfl, rl_of_f h⟩
theorem m_ref_d0 {B : Nat} {σ τ : me_M} {y : Int32} (h : rl B σ τ) (hd : σ 0 5 = 0) (h0 : τ 0 0 = nI 0) : m_ref (τ 0 25) y τ = (nI 0, τ) := by
  rw [← rl_dn h, hd, ← nI_0]
  exact m_ref_no h0
theorem m_ref_d1 {B n : Nat} {σ τ : me_M} (h : rl B σ τ) (hd : ¬ σ 0 5 = 0) (h0 : τ 0 0 = nI 0) (hn : 0 < n) (hn2 : n < 2 ^ 31) : m_ref (τ 0 25) (nI n) τ = (nI 1, me_st τ 0 0 (nI n)) := by
  rw [← rl_dn h]
  exact m_ref_yes h0 hd hn hn2
theorem sim_sync {B : Nat} {σ τ : me_M} (hB : B ≤ 90000) (h : rl B σ τ) : r_ans B (k_sync σ) (nI 0) (nI 1) (m_sync τ).1 (m_sync τ).2 := by
  have h := rl_t0 (nI 0) h
  have h0 : me_st τ 0 0 (nI 0) 0 0 = nI 0 := me_st_self _ _ _ _
  unfold k_sync m_sync
  generalize me_st τ 0 0 (nI 0) = τ0 at *
  dsimp only
  by_cases hd : σ 0 5 = 0
  · rw [m_ref_d0 h hd h0, if_pos hd]
    dsimp only
    rw [if_pos nI_0]
    rcases el : k_lw σ with ⟨r1, σ1⟩
    rcases em : m_lw τ0 with ⟨q1, τ1⟩
    have hth : τ1 0 0 = nI 0 := (pu_mlw_F em).2.2.1.trans h0
    dsimp only
    rcases sim_lw hB h el em with ⟨w, hw, ew, rfl, rfl, hk, hw0⟩ | ⟨rfl, rfl, hf⟩
    · rw [if_neg (nI_m3 (by omega)), if_neg (by decide)]
      refine ⟨hk.1, hth, fun _ => ?_⟩
      show nI w = τ0 0 18
      rw [← ew]
      exact h.2.2.2.2.2.2.2.2.2.2.2.2
    · rw [if_pos rfl, if_pos nI_0]
      exact ⟨rl_of_f hf, hth, fun _ => rfl⟩
  · rw [m_ref_d1 h hd h0 (by omega) (by omega), if_neg hd]
    dsimp only
    rw [if_neg (by decide)]
    exact ⟨rl_t0 _ h, (me_st_self τ0 0 0 (nI 1)).trans rfl, fun h => by cases h⟩
theorem sim_cpt {B : Nat} {σ τ : me_M} (hB : B ≤ 90000) (h : rl B σ τ) : r_ans B (k_cpt σ) (nI 0) (nI 1) (m_cpt τ).1 (m_cpt τ).2 := by
  have h := rl_t0 (nI 0) h
  have h0 : me_st τ 0 0 (nI 0) 0 0 = nI 0 := me_st_self _ _ _ _
  unfold k_cpt m_cpt
  generalize me_st τ 0 0 (nI 0) = τ0 at *
  dsimp only
  by_cases hd : σ 0 5 = 0
  · rw [m_ref_d0 h hd h0, if_pos hd]
    dsimp only
    rw [if_pos nI_0]
    rcases el : k_cam σ with ⟨r1, σ1⟩
    rcases em : m_chk τ0 with ⟨q1, τ1⟩
    have hth : τ1 0 0 = nI 0 := (pu_mchk em (rl_mI hB h).1).2.2.trans h0
    dsimp only
    rcases sim_cam hB h el em with ⟨z, hz, rfl, rfl, hk, -⟩ | ⟨rfl, rfl, hf⟩
    · rw [if_neg (nI_m3 (by omega))]
      exact ⟨hk, hth, fun _ => rfl⟩
    · rw [if_pos rfl]
      exact ⟨rl_of_f hf, hth, fun _ => rfl⟩
  · rw [m_ref_d1 h hd h0 (by omega) (by omega), if_neg hd]
    dsimp only
    rw [if_neg (by decide)]
    exact ⟨rl_t0 _ h, (me_st_self τ0 0 0 (nI 1)).trans rfl, fun h => by cases h⟩
theorem sim_cut {B : Nat} {σ τ : me_M} (h : rl B σ τ) : r_ans B (k_cut σ) (nI 0) (nI 1) (m_cut τ).1 (m_cut τ).2 := by
  have h := rl_t0 (nI 0) h
  have h0 : me_st τ 0 0 (nI 0) 0 0 = nI 0 := me_st_self _ _ _ _
  unfold k_cut m_cut
  generalize me_st τ 0 0 (nI 0) = τ0 at *
  dsimp only
  by_cases hd : σ 0 5 = 0
  · rw [m_ref_d0 h hd h0, if_pos hd]
    dsimp only
    rw [if_pos nI_0]
    refine ⟨rl_of_f (rl_f h), ?_, fun _ => h.2.2.2.2.2.2.2.2.2.2.2.2⟩
    show m_down τ0 0 0 = nI 0
    rw [s_md_0 τ0 (by omega)]
    exact h0
  · rw [m_ref_d1 h hd h0 (by omega) (by omega), if_neg hd]
    dsimp only
    rw [if_neg (by decide)]
    exact ⟨rl_t0 _ h, (me_st_self τ0 0 0 (nI 1)).trans rfl, fun h => by cases h⟩
theorem sim_power {B : Nat} {σ τ : me_M} (a : Int32) (h : rl B σ τ) : r_ans B (k_power a σ) (nI 1) (nI 0) 0 (m_power a τ) := by
  have h := rl_t0 (nI 0) h
  have h0 : me_st τ 0 0 (nI 0) 0 0 = nI 0 := me_st_self _ _ _ _
  unfold k_power m_power
  generalize me_st τ 0 0 (nI 0) = τ0 at *
  dsimp only
  rw [m_ref_no h0, m_ref_yes (n := 1) h0 (by decide) (by omega) (by omega)]
  dsimp only
  have bad : ¬ nI 1 = (0 : Int32) := by decide
  rw [if_neg bad, if_pos nI_0]
  unfold m_in
  by_cases c1 : a < -1
  · rw [if_pos c1, if_pos c1, if_pos nI_0]
    exact ⟨rl_t0 _ h, (me_st_self τ0 0 0 (nI 1)).trans rfl, fun h => by cases h⟩
  · rw [if_neg c1, if_neg c1]
    by_cases c2 : nI 10000 < a
    · rw [if_pos c2, if_pos nI_0, if_neg (Int32.not_le.mpr c2)]
      exact ⟨rl_t0 _ h, (me_st_self τ0 0 0 (nI 1)).trans rfl, fun h => by cases h⟩
    · rw [if_neg c2, if_neg bad, if_pos (Int32.not_lt.mp c2)]
      refine ⟨?_, ?_, fun _ => rfl⟩
      · show rl B (me_st σ 0 4 a) (me_st τ0 0 24 a)
        have g1 : ∀ x, x ≠ 0 → me_st σ 0 4 a x = σ x := fun x hx => me_st_c σ _ _ hx
        have g2 : ∀ k, k ≠ 4 → me_st σ 0 4 a 0 k = σ 0 k := fun k hk => me_st_s σ 0 _ hk
        have g3 : ∀ x, x ≠ 0 → me_st τ0 0 24 a x = τ0 x := fun x hx => me_st_c τ0 _ _ hx
        have g4 : ∀ k, k ≠ 24 → me_st τ0 0 24 a 0 k = τ0 0 k := fun k hk => me_st_s τ0 0 _ hk
        have v : me_st σ 0 4 a 0 4 = me_st τ0 0 24 a 0 24 := by rw [me_st_self, me_st_self]
        generalize me_st σ 0 4 a = σ' at *
        generalize me_st τ0 0 24 a = τ' at *
        obtain ⟨hD, ⟨p0, p1, p2, p3, p4⟩, hX⟩ := h
        refine ⟨r_D_s (fun x _ _ => g1 x (by omega)) (r_D_t (fun x _ _ => g3 x (by omega)) hD), ⟨v, ?_, ?_, ?_, ?_⟩, r_X_of (fun x hx => g1 x (by omega)) (fun k hk => g2 k (by omega)) (fun x hx => g3 x (by omega)) (fun k hk => g4 k (by omega)) hX⟩
        · rw [g2 6 (by omega), g4 26 (by omega)]; exact p1
        · rw [g2 7 (by omega), g4 27 (by omega)]; exact p2
        · rw [g2 8 (by omega), g4 28 (by omega)]; exact p3
        · rw [g2 14 (by omega), g4 23 (by omega)]; exact p4
      · show me_st τ0 0 24 a 0 0 = nI 0
        rw [me_st_s _ _ _ (by omega)]
        exact h0
theorem s_in (x : Int32) {n : Nat} (hn : n + 1 < 2 ^ 31) : k_isIn x (nI (n + 1)) = m_in x (nI 0) (nI n) := by
  unfold k_isIn m_in
  rw [nI_0]
  have e : (nI (n + 1) ≤ x) ↔ (nI n < x) := by
    rw [Int32.le_iff_toInt_le, Int32.lt_iff_toInt_lt, nI_toInt hn, nI_toInt (by omega)]
    omega
  simp only [e]
theorem sim_count {B : Nat} {σ τ : me_M} (a : Int32) (h : rl B σ τ) : r_ans B (k_count a σ) (nI 1) (nI 0) (m_count a τ).1 (m_count a τ).2 := by
  have h := rl_t0 (nI 0) h
  have h0 : me_st τ 0 0 (nI 0) 0 0 = nI 0 := me_st_self _ _ _ _
  unfold m_count
  generalize me_st τ 0 0 (nI 0) = τ0 at *
  dsimp only
  rw [m_ref_no h0, m_ref_yes (n := 1) h0 (by decide) (by omega) (by omega), ← s_in a (by omega)]
  dsimp only
  have bad : ¬ nI 1 = (0 : Int32) := by decide
  have hd := rl_dn h
  obtain ⟨hD, ⟨p0, p1, p2, p3, p4⟩, hX⟩ := h
  obtain ⟨q1, q2, q3, q4⟩ := hX.2.2.2.2.2.2.2
  have h : rl B σ τ0 := ⟨hD, ⟨p0, p1, p2, p3, p4⟩, hX⟩
  rw [if_neg bad, if_pos nI_0]
  rcases pk_ix a (n := 7) (by omega) with c | c | ⟨j, hj, rfl⟩
  · rw [show k_isIn a (nI (6 + 1)) = nI 0 from by unfold k_isIn; rw [if_pos c], if_pos nI_0]
    have hk : k_count a σ = (1, 0, σ) := by
      unfold k_count
      have e : ∀ j : Nat, j < 2 ^ 31 → ¬ a = nI j := fun j hj q => nI_pos hj (q ▸ c)
      rw [if_neg (e 0 (by omega)), if_neg (e 1 (by omega)), if_neg (e 2 (by omega)), if_neg (e 3 (by omega)), if_neg (e 4 (by omega)), if_neg (e 5 (by omega)), if_neg (e 6 (by omega))]
    rw [hk]
    exact ⟨rl_t0 _ h, (me_st_self τ0 0 0 (nI 1)).trans rfl, fun h => by cases h⟩
  · have cn : ¬ a < 0 := fun q => by
      have h1 := Int32.lt_iff_toInt_lt.mp q
      have h2 := Int32.le_iff_toInt_le.mp c
      rw [nI_toInt (by omega)] at h2
      have h3 : (0 : Int32).toInt = 0 := rfl
      omega
    rw [show k_isIn a (nI (6 + 1)) = nI 0 from by unfold k_isIn; rw [if_neg cn, if_pos c], if_pos nI_0]
    have hk : k_count a σ = (1, 0, σ) := by
      unfold k_count
      have e : ∀ j : Nat, j < 7 → ¬ a = nI j := fun j hj q => nI_ge hj (by omega) (q ▸ c)
      rw [if_neg (e 0 (by omega)), if_neg (e 1 (by omega)), if_neg (e 2 (by omega)), if_neg (e 3 (by omega)), if_neg (e 4 (by omega)), if_neg (e 5 (by omega)), if_neg (e 6 (by omega))]
    rw [hk]
    exact ⟨rl_t0 _ h, (me_st_self τ0 0 0 (nI 1)).trans rfl, fun h => by cases h⟩
  · have hin : k_isIn (nI j) (nI (6 + 1)) = nI 1 := by
      unfold k_isIn
      rw [if_neg (nI_pos (by omega)), if_neg (nI_ge hj (by omega))]
    rw [hin, if_neg bad]
    have ne : ∀ i k : Nat, i < 7 → k < 7 → i ≠ k → ¬ nI i = nI k := fun i k hi hk hn q => hn ((nI_eq (by omega) (by omega)).mp q)
    have n0 : ∀ i : Nat, i < 7 → i ≠ 0 → ¬ nI i = 0 := fun i hi hn => nI_ne0 (by omega) (by omega)
    have hc : j = 0 ∨ j = 1 ∨ j = 2 ∨ j = 3 ∨ j = 4 ∨ j = 5 ∨ j = 6 := by omega
    unfold k_count
    rcases hc with rfl | rfl | rfl | rfl | rfl | rfl | rfl
    · rw [if_pos (rfl : nI 0 = nI 0), if_pos nI_0]
      by_cases c : σ 0 5 = 0
      · have c' : τ0 0 25 = 0 := hd ▸ c
        rw [if_pos c, if_pos c']
        exact ⟨h, h0, fun _ => by show σ 0 12 - nI 1 = τ0 0 17 - nI 1; rw [q2]⟩
      · have c' : ¬ τ0 0 25 = 0 := hd ▸ c
        rw [if_neg c, if_neg c']
        exact ⟨h, h0, fun _ => rfl⟩
    · rw [if_neg (ne 1 0 (by omega) (by omega) (by omega)), if_pos (rfl : nI 1 = nI 1), if_neg (n0 1 (by omega) (by omega)), if_pos (rfl : nI 1 = nI 1)]
      exact ⟨h, h0, fun _ => q4⟩
    · rw [if_neg (ne 2 0 (by omega) (by omega) (by omega)), if_neg (ne 2 1 (by omega) (by omega) (by omega)), if_pos (rfl : nI 2 = nI 2), if_neg (n0 2 (by omega) (by omega)), if_neg (ne 2 1 (by omega) (by omega) (by omega)), if_pos (rfl : nI 2 = nI 2)]
      exact ⟨h, h0, fun _ => p1⟩
    · rw [if_neg (ne 3 0 (by omega) (by omega) (by omega)), if_neg (ne 3 1 (by omega) (by omega) (by omega)), if_neg (ne 3 2 (by omega) (by omega) (by omega)), if_pos (rfl : nI 3 = nI 3), if_neg (n0 3 (by omega) (by omega)), if_neg (ne 3 1 (by omega) (by omega) (by omega)), if_neg (ne 3 2 (by omega) (by omega) (by omega)), if_pos (rfl : nI 3 = nI 3)]
      by_cases c : σ 0 5 = 0
      · have c' : τ0 0 25 = 0 := hd ▸ c
        rw [if_pos c, if_pos c']
        exact ⟨h, h0, fun _ => rfl⟩
      · have c' : ¬ τ0 0 25 = 0 := hd ▸ c
        rw [if_neg c, if_neg c']
        exact ⟨h, h0, fun _ => rfl⟩
    · rw [if_neg (ne 4 0 (by omega) (by omega) (by omega)), if_neg (ne 4 1 (by omega) (by omega) (by omega)), if_neg (ne 4 2 (by omega) (by omega) (by omega)), if_neg (ne 4 3 (by omega) (by omega) (by omega)), if_pos (rfl : nI 4 = nI 4), if_neg (n0 4 (by omega) (by omega)), if_neg (ne 4 1 (by omega) (by omega) (by omega)), if_neg (ne 4 2 (by omega) (by omega) (by omega)), if_neg (ne 4 3 (by omega) (by omega) (by omega)), if_pos (rfl : nI 4 = nI 4)]
      exact ⟨h, h0, fun _ => p2⟩
    · rw [if_neg (ne 5 0 (by omega) (by omega) (by omega)), if_neg (ne 5 1 (by omega) (by omega) (by omega)), if_neg (ne 5 2 (by omega) (by omega) (by omega)), if_neg (ne 5 3 (by omega) (by omega) (by omega)), if_neg (ne 5 4 (by omega) (by omega) (by omega)), if_pos (rfl : nI 5 = nI 5), if_neg (n0 5 (by omega) (by omega)), if_neg (ne 5 1 (by omega) (by omega) (by omega)), if_neg (ne 5 2 (by omega) (by omega) (by omega)), if_neg (ne 5 3 (by omega) (by omega) (by omega)), if_neg (ne 5 4 (by omega) (by omega) (by omega)), if_pos (rfl : nI 5 = nI 5)]
      exact ⟨h, h0, fun _ => p3⟩
    · rw [if_neg (ne 6 0 (by omega) (by omega) (by omega)), if_neg (ne 6 1 (by omega) (by omega) (by omega)), if_neg (ne 6 2 (by omega) (by omega) (by omega)), if_neg (ne 6 3 (by omega) (by omega) (by omega)), if_neg (ne 6 4 (by omega) (by omega) (by omega)), if_neg (ne 6 5 (by omega) (by omega) (by omega)), if_pos (rfl : nI 6 = nI 6), if_neg (n0 6 (by omega) (by omega)), if_neg (ne 6 1 (by omega) (by omega) (by omega)), if_neg (ne 6 2 (by omega) (by omega) (by omega)), if_neg (ne 6 3 (by omega) (by omega) (by omega)), if_neg (ne 6 4 (by omega) (by omega) (by omega)), if_neg (ne 6 5 (by omega) (by omega) (by omega))]
      by_cases c : σ 0 5 = 0
      · have c' : τ0 0 25 = 0 := hd ▸ c
        rw [if_pos c, if_pos c']
        exact ⟨h, h0, fun _ => by show k_room σ = m_room τ0; unfold k_room m_room; rw [q1, q2]⟩
      · have c' : ¬ τ0 0 25 = 0 := hd ▸ c
        rw [if_neg c, if_neg c']
        exact ⟨h, h0, fun _ => rfl⟩
