/-! SIMULATION 5: frames are cleaned -/
def r_mt (o : Int32) (i : Nat) : Prop := o = -1 ∨ o = nI i
def r_d (f : Nat → Int32) (o : Int32) : Nat → Nat → Nat
  | 0, _ => 0
  | n + 1, i => (if f i = 0 ∨ ¬ (o = -1 ∨ o = nI i) then 0 else 1) + r_d f o n (i + 1)
theorem r_d_le (f : Nat → Int32) (o : Int32) : ∀ n i, r_d f o n i ≤ n := by
  intro n
  induction n with
  | zero => intro i; exact Nat.le_refl _
  | succ n ih =>
    intro i
    have := ih (i + 1)
    simp only [r_d]
    split <;> omega
theorem r_d_congr {f g : Nat → Int32} (o : Int32) : ∀ n i, (∀ j, i ≤ j → f j = g j) → r_d f o n i = r_d g o n i := by
  intro n
  induction n with
  | zero => intro i _; rfl
  | succ n ih =>
    intro i h
    simp only [r_d]
    rw [h i (Nat.le_refl _), ih (i + 1) (fun j hj => h j (by omega))]
theorem c13_end {n z : Nat} {o : Int32} {s : me_M} : m_cl_13 (n + 1) o z 4 s = m_cl_59 5 o 0 s := by
  simp only [m_cl_13]
  rw [if_pos (by decide)]
theorem c13_skip {n z i : Nat} {o : Int32} {s : me_M} (hi : i < 4) (h : s 12 i = 0 ∨ ¬ r_mt o i) : m_cl_13 (n + 1) o z i s = m_cl_13 n o z (i + 1) s := by
  have e : ¬ (nI 4 ≤ nI i) := fun q => by have := (nI_leI (by omega) (by omega)).mp q; omega
  simp only [m_cl_13]
  rw [if_neg e]
  by_cases h0 : s 12 i = 0
  · rw [if_pos h0]
  · have h1 : ¬ r_mt o i := by rcases h with h | h; exact absurd h h0; exact h
    rw [if_neg h0, if_neg (fun q => h1 (Or.inl q)), if_neg (fun q => h1 (Or.inr q))]
theorem c13_go {n z i : Nat} {o : Int32} {s : me_M} (hi : i < 4) (h0 : ¬ s 12 i = 0) (h1 : r_mt o i) : m_cl_13 (n + 1) o z i s = if (m_wb z i s).1 = 0 then (nI 0, (m_wb z i s).2) else m_cl_13 n o (z + 1) (i + 1) (m_wb z i s).2 := by
  have e : ¬ (nI 4 ≤ nI i) := fun q => by have := (nI_leI (by omega) (by omega)).mp q; omega
  simp only [m_cl_13]
  rw [if_neg e, if_neg h0]
  by_cases h2 : o = -1
  · rw [if_pos h2]
  · rw [if_neg h2, if_pos (by rcases h1 with h | h; exact absurd h h2; exact h)]
theorem c59_end {n : Nat} {o : Int32} {s : me_M} : m_cl_59 (n + 1) o 4 s = m_cl_114 5 o 0 s := by
  simp only [m_cl_59]
  rw [if_pos (by decide)]
theorem c59_skip {n i : Nat} {o : Int32} {s : me_M} (hi : i < 4) (h : s 12 i = 0 ∨ ¬ r_mt o i) : m_cl_59 (n + 1) o i s = m_cl_59 n o (i + 1) s := by
  have e : ¬ (nI 4 ≤ nI i) := fun q => by have := (nI_leI (by omega) (by omega)).mp q; omega
  simp only [m_cl_59]
  rw [if_neg e]
  by_cases h0 : s 12 i = 0
  · rw [if_pos h0]
  · have h1 : ¬ r_mt o i := by rcases h with h | h; exact absurd h h0; exact h
    rw [if_neg h0, if_neg (fun q => h1 (Or.inl q)), if_neg (fun q => h1 (Or.inr q))]
theorem c59_go {n i : Nat} {o : Int32} {s : me_M} (hi : i < 4) (h0 : ¬ s 12 i = 0) (h1 : r_mt o i) : m_cl_59 (n + 1) o i s = if (m_wh ((s 10 i).toNatClampNeg) (s 11 i) i (nI 1) s).1 = 0 then (nI 0, (m_wh ((s 10 i).toNatClampNeg) (s 11 i) i (nI 1) s).2) else m_cl_59 n o (i + 1) (m_wh ((s 10 i).toNatClampNeg) (s 11 i) i (nI 1) s).2 := by
  have e : ¬ (nI 4 ≤ nI i) := fun q => by have := (nI_leI (by omega) (by omega)).mp q; omega
  simp only [m_cl_59]
  rw [if_neg e, if_neg h0]
  by_cases h2 : o = -1
  · rw [if_pos h2]
  · rw [if_neg h2, if_pos (by rcases h1 with h | h; exact absurd h h2; exact h)]
/-- a dirty frame has a page -/
theorem rl_dirty {B k : Nat} {σ τ : me_M} (h : rl B σ τ) (hk : k < 4) (hd : ¬ τ 12 k = 0) : ¬ τ 10 k = -1 := by
  obtain ⟨g1, g2, g3⟩ := h.2.2.2.2.2.1 k hk
  intro q
  rw [← g1] at q
  rw [← g2] at hd
  exact hd ((h.2.2.2.2.2.2.1.1 k hk).1 q).2.1
/-- beside -/
theorem sim_c13 {B a b : Nat} {o : Int32} (hab : a ≤ b) (hb : b < 4) (hm : ∀ i, i < 4 → (r_mt o i ↔ a ≤ i ∧ i ≤ b)) : ∀ (n' n i c z : Nat) (σ τ : me_M), rl B σ τ → i ≤ 4 → (i < a → c = a) → (a ≤ i → i ≤ b → c = i) → (b < i → c = b + 1) → z ≤ i → 5 ≤ n' + i → b + 2 ≤ n + c → (∃ σ' τ', r_ok B σ τ σ' τ' ∧ k_cd_17 n a b z c σ = k_cd_17 1 a b (z + r_d (τ 12) o (4 - i) i) (b + 1) σ' ∧ m_cl_13 n' o z i τ = m_cl_59 5 o 0 τ') ∨ (∃ σ' τ', k_cd_17 n a b z c σ = (-3, σ') ∧ m_cl_13 n' o z i τ = (nI 0, τ') ∧ r_f B σ' τ') := by
  intro n'
  induction n' with
  | zero => intro n i c z σ τ h h1 h2 h3 h4 h5 h6; omega
  | succ n' ih =>
    intro n i c z σ τ h h1 h2 h3 h4 h5 h6 h7
    by_cases hi : i = 4
    · subst hi
      obtain rfl : c = b + 1 := h4 (by omega)
      refine Or.inl ⟨σ, τ, r_ok.rf h, ?_, c13_end⟩
      obtain ⟨n, rfl⟩ : ∃ y, n = y + 1 := ⟨n - 1, by omega⟩
      have e : nI b < nI (b + 1) := nI_lt (by omega) (by omega)
      show k_cd_17 (n + 1) a b z (b + 1) σ = k_cd_17 (0 + 1) a b (z + 0) (b + 1) σ
      simp only [k_cd_17]
      rw [if_pos e, if_pos e]
      rfl
    · have e4 : 4 - i = (4 - (i + 1)) + 1 := by omega
      rw [e4]
      simp only [r_d]
      by_cases c1 : τ 12 i = 0 ∨ ¬ (o = -1 ∨ o = nI i)
      · rw [c13_skip (by omega) c1, if_pos c1]
        by_cases c2 : a ≤ i ∧ i ≤ b
        · obtain rfl : c = i := h3 c2.1 c2.2
          obtain ⟨n, rfl⟩ : ∃ y, n = y + 1 := ⟨n - 1, by omega⟩
          have hd : τ 12 c = 0 := by
            rcases c1 with q | q
            · exact q
            · exact absurd ((hm c (by omega)).mpr c2) q
          have e : ¬ nI b < nI c := nI_nlt (by omega) (by omega)
          have es : k_cd_17 (n + 1) a b z c σ = k_cd_17 n a b z (c + 1) σ := by
            simp only [k_cd_17]
            rw [if_neg e, if_pos (by rw [(h.2.2.2.2.2.1 c (by omega)).2.1]; exact hd)]
          rw [es, Nat.zero_add]
          exact ih n (c + 1) (c + 1) z σ τ h (by omega) (by omega) (by omega) (by omega) (by omega) (by omega) (by omega)
        · rw [Nat.zero_add]
          exact ih n (i + 1) c z σ τ h (by omega) (by omega) (by omega) (by omega) (by omega) (by omega) (by omega)
      · have hd : ¬ τ 12 i = 0 := fun q => c1 (Or.inl q)
        have hmt : r_mt o i := Classical.not_not.mp fun q => c1 (Or.inr q)
        have c2 := (hm i (by omega)).mp hmt
        obtain rfl : c = i := h3 c2.1 c2.2
        obtain ⟨n, rfl⟩ : ∃ y, n = y + 1 := ⟨n - 1, by omega⟩
        rw [c13_go (by omega) hd hmt, if_neg c1]
        have e : ¬ nI b < nI c := nI_nlt (by omega) (by omega)
        have es : k_cd_17 (n + 1) a b z c σ = if (k_wp (12 + z) (σ (94 + 2 * c) 1) (σ (94 + 2 * c) 2) (94 + 2 * c + 1) σ).1 = 0 then (-3, (k_wp (12 + z) (σ (94 + 2 * c) 1) (σ (94 + 2 * c) 2) (94 + 2 * c + 1) σ).2) else k_cd_17 n a b (z + 1) (c + 1) (k_wp (12 + z) (σ (94 + 2 * c) 1) (σ (94 + 2 * c) 2) (94 + 2 * c + 1) σ).2 := by
          simp only [k_cd_17]
          rw [if_neg e, if_neg (by rw [(h.2.2.2.2.2.1 c (by omega)).2.1]; exact hd)]
        rw [es]
        rcases ew : k_wp (12 + z) (σ (94 + 2 * c) 1) (σ (94 + 2 * c) 2) (94 + 2 * c + 1) σ with ⟨r1, σ1⟩
        rcases em : m_wb z c τ with ⟨q1, τ1⟩
        dsimp only
        rcases sim_wb h (by omega) (by omega) (rl_dirty h (by omega) hd) ew em with ⟨rfl, rfl, hk⟩ | ⟨rfl, rfl, hf⟩
        · rw [if_neg (by decide), if_neg (by decide)]
          rcases ih n (c + 1) (c + 1) (z + 1) σ1 τ1 hk.1 (by omega) (by omega) (by omega) (by omega) (by omega) (by omega) (by omega) with ⟨σ', τ', k1, k2, k3⟩ | hf
          · refine Or.inl ⟨σ', τ', hk.tr k1, ?_, k3⟩
            rw [k2, hk.2.2.2.1 12 (by omega), Nat.add_assoc]
          · exact Or.inr hf
        · rw [if_pos nI_0, if_pos nI_0]
          exact Or.inr ⟨σ1, τ1, rfl, rfl, hf⟩
/-- at home -/
theorem sim_c59 {B a b : Nat} {o : Int32} (hab : a ≤ b) (hb : b < 4) (hm : ∀ i, i < 4 → (r_mt o i ↔ a ≤ i ∧ i ≤ b)) : ∀ (n' n i c : Nat) (σ τ : me_M), rl B σ τ → i ≤ 4 → (i < a → c = a) → (a ≤ i → i ≤ b → c = i) → (b < i → c = b + 1) → 5 ≤ n' + i → b + 2 ≤ n + c → (∃ σ' τ', r_ok B σ τ σ' τ' ∧ k_wdh_2 n a b c σ = (nI 1, σ') ∧ m_cl_59 n' o i τ = m_cl_114 5 o 0 τ') ∨ (∃ σ' τ', k_wdh_2 n a b c σ = (nI 0, σ') ∧ m_cl_59 n' o i τ = (nI 0, τ') ∧ r_f B σ' τ') := by
  intro n'
  induction n' with
  | zero => intro n i c σ τ h h1 h2 h3 h4 h6; omega
  | succ n' ih =>
    intro n i c σ τ h h1 h2 h3 h4 h6 h7
    by_cases hi : i = 4
    · subst hi
      obtain rfl : c = b + 1 := h4 (by omega)
      refine Or.inl ⟨σ, τ, r_ok.rf h, ?_, c59_end⟩
      obtain ⟨n, rfl⟩ : ∃ y, n = y + 1 := ⟨n - 1, by omega⟩
      have e : nI b < nI (b + 1) := nI_lt (by omega) (by omega)
      simp only [k_wdh_2]
      rw [if_pos e]
    · by_cases c1 : τ 12 i = 0 ∨ ¬ (o = -1 ∨ o = nI i)
      · rw [c59_skip (by omega) c1]
        by_cases c2 : a ≤ i ∧ i ≤ b
        · obtain rfl : c = i := h3 c2.1 c2.2
          obtain ⟨n, rfl⟩ : ∃ y, n = y + 1 := ⟨n - 1, by omega⟩
          have hd : τ 12 c = 0 := by
            rcases c1 with q | q
            · exact q
            · exact absurd ((hm c (by omega)).mpr c2) q
          have e : ¬ nI b < nI c := nI_nlt (by omega) (by omega)
          have es : k_wdh_2 (n + 1) a b c σ = k_wdh_2 n a b (c + 1) σ := by
            simp only [k_wdh_2]
            rw [if_neg e, if_pos (by rw [(h.2.2.2.2.2.1 c (by omega)).2.1]; exact hd)]
          rw [es]
          exact ih n (c + 1) (c + 1) σ τ h (by omega) (by omega) (by omega) (by omega) (by omega) (by omega)
        · exact ih n (i + 1) c σ τ h (by omega) (by omega) (by omega) (by omega) (by omega) (by omega)
      · have hd : ¬ τ 12 i = 0 := fun q => c1 (Or.inl q)
        have hmt : r_mt o i := Classical.not_not.mp fun q => c1 (Or.inr q)
        have c2 := (hm i (by omega)).mp hmt
        obtain rfl : c = i := h3 c2.1 c2.2
        obtain ⟨n, rfl⟩ : ∃ y, n = y + 1 := ⟨n - 1, by omega⟩
        rw [c59_go (by omega) hd hmt]
        have e : ¬ nI b < nI c := nI_nlt (by omega) (by omega)
        have es : k_wdh_2 (n + 1) a b c σ = if (k_wp ((σ (94 + 2 * c) 1).toNatClampNeg) (σ (94 + 2 * c) 1) (σ (94 + 2 * c) 2) (94 + 2 * c + 1) σ).1 = 0 then (nI 0, (k_wp ((σ (94 + 2 * c) 1).toNatClampNeg) (σ (94 + 2 * c) 1) (σ (94 + 2 * c) 2) (94 + 2 * c + 1) σ).2) else k_wdh_2 n a b (c + 1) (k_wp ((σ (94 + 2 * c) 1).toNatClampNeg) (σ (94 + 2 * c) 1) (σ (94 + 2 * c) 2) (94 + 2 * c + 1) σ).2 := by
          simp only [k_wdh_2]
          rw [if_neg e, if_neg (by rw [(h.2.2.2.2.2.1 c (by omega)).2.1]; exact hd)]
        rw [es]
        rcases ew : k_wp ((σ (94 + 2 * c) 1).toNatClampNeg) (σ (94 + 2 * c) 1) (σ (94 + 2 * c) 2) (94 + 2 * c + 1) σ with ⟨r1, σ1⟩
        rcases em : m_wh ((τ 10 c).toNatClampNeg) (τ 11 c) c (nI 1) τ with ⟨q1, τ1⟩
        dsimp only
        rcases sim_whf h (by omega) (rl_dirty h (by omega) hd) ew em with ⟨rfl, rfl, hk⟩ | ⟨rfl, rfl, hf⟩
        · rw [if_neg (by decide), if_neg (by decide)]
          rcases ih n (c + 1) (c + 1) σ1 τ1 hk.1 (by omega) (by omega) (by omega) (by omega) (by omega) (by omega) with ⟨σ', τ', k1, k2, k3⟩ | hf
          · exact Or.inl ⟨σ', τ', hk.tr k1, k2, k3⟩
          · exact Or.inr hf
        · rw [if_pos nI_0, if_pos nI_0]
          exact Or.inr ⟨σ1, τ1, rfl, rfl, hf⟩
/-- the frames are clean now -/
theorem s_cd95 : ∀ (n a b z i : Nat) (s : me_M), i ≤ b + 1 → b < 4 → b + 2 ≤ n + i → ∃ s', k_cd_95 n a b z i s = (nI z, s') ∧ ∀ p q, s' p q = if p = 0 ∧ q = 7 then s 0 7 + nI z else if (94 + 2 * i ≤ p ∧ p ≤ 94 + 2 * b ∧ p % 2 = 0) ∧ q = 3 then 0 else s p q := by
  intro n
  induction n with
  | zero => intro a b z i s h1 h2 h3; omega
  | succ n ih =>
    intro a b z i s h1 h2 h3
    have e : nI b < nI i ↔ b < i := nI_ltI (by omega) (by omega)
    simp only [k_cd_95, e]
    by_cases c : b < i
    · rw [if_pos c]
      refine ⟨_, rfl, fun p q => ?_⟩
      rw [me_st_eq]
      by_cases c2 : p = 0 ∧ q = 7
      · rw [if_pos c2, if_pos c2]
      · rw [if_neg c2, if_neg c2, if_neg (by omega)]
    · rw [if_neg c]
      obtain ⟨s', h4, h5⟩ := ih a b z (i + 1) (me_st s (94 + 2 * i) 3 (nI 0)) (by omega) h2 (by omega)
      refine ⟨s', h4, fun p q => ?_⟩
      rw [h5, me_st_eq, me_st_eq]
      repeat' split
      all_goals first | rfl | omega
theorem s_c114 (o : Int32) : ∀ (n i : Nat) (s : me_M), i ≤ 4 → 5 ≤ n + i → ∃ s', m_cl_114 n o i s = (nI 1, s') ∧ s' 0 27 = s 0 27 + nI (r_d (s 12) o (4 - i) i) ∧ (∀ p, p ≠ 0 → p ≠ 12 → s' p = s p) ∧ (∀ q, q ≠ 27 → s' 0 q = s 0 q) ∧ (∀ q, q < 4 → s' 12 q = s 12 q ∨ (s' 12 q = 0 ∧ r_mt o q)) ∧ (∀ q, i ≤ q → q < 4 → r_mt o q → s' 12 q = 0) := by
  intro n
  induction n with
  | zero => intro i s h1 h3; omega
  | succ n ih =>
    intro i s h1 h3
    have e : nI 4 ≤ nI i ↔ 4 ≤ i := nI_leI (by omega) (by omega)
    simp only [m_cl_114, e]
    by_cases c : 4 ≤ i
    · rw [if_pos c]
      refine ⟨s, rfl, ?_, fun _ _ _ => rfl, fun _ _ => rfl, fun _ _ => Or.inl rfl, fun q h4 h5 => by omega⟩
      rw [show 4 - i = 0 by omega]
      show _ = s 0 27 + nI 0
      rw [nI_0, Int32.add_zero]
    · rw [if_neg c]
      have e4 : 4 - i = (4 - (i + 1)) + 1 := by omega
      rw [e4]
      simp only [r_d]
      by_cases c1 : s 12 i = 0 ∨ ¬ (o = -1 ∨ o = nI i)
      · have es : (if s 12 i = 0 then m_cl_114 n o (i + 1) s else if o = -1 then m_cl_114 n o (i + 1) (me_st (me_st s 12 i (nI 0)) 0 27 (me_st s 12 i (nI 0) 0 27 + nI 1)) else if o = nI i then m_cl_114 n o (i + 1) (me_st (me_st s 12 i (nI 0)) 0 27 (me_st s 12 i (nI 0) 0 27 + nI 1)) else m_cl_114 n o (i + 1) s) = m_cl_114 n o (i + 1) s := by
          by_cases h0 : s 12 i = 0
          · rw [if_pos h0]
          · have h1 : ¬ r_mt o i := by rcases c1 with h | h; exact absurd h h0; exact h
            rw [if_neg h0, if_neg (fun q => h1 (Or.inl q)), if_neg (fun q => h1 (Or.inr q))]
        obtain ⟨s', k1, k2, k3, k4, k5, k6⟩ := ih (i + 1) s (by omega) (by omega)
        refine ⟨s', es.trans k1, ?_, k3, k4, k5, fun q h4 h5 h6 => ?_⟩
        · rw [k2, if_pos c1, Nat.zero_add]
        · by_cases hq : q = i
          · subst hq
            rcases k5 q h5 with q1 | q1
            · rw [q1]
              rcases c1 with h | h
              · exact h
              · exact absurd h6 h
            · exact q1.1
          · exact k6 q (by omega) h5 h6
      · have hd : ¬ s 12 i = 0 := fun q => c1 (Or.inl q)
        have hmt : r_mt o i := Classical.not_not.mp fun q => c1 (Or.inr q)
        have es : (if s 12 i = 0 then m_cl_114 n o (i + 1) s else if o = -1 then m_cl_114 n o (i + 1) (me_st (me_st s 12 i (nI 0)) 0 27 (me_st s 12 i (nI 0) 0 27 + nI 1)) else if o = nI i then m_cl_114 n o (i + 1) (me_st (me_st s 12 i (nI 0)) 0 27 (me_st s 12 i (nI 0) 0 27 + nI 1)) else m_cl_114 n o (i + 1) s) = m_cl_114 n o (i + 1) (me_st (me_st s 12 i (nI 0)) 0 27 (me_st s 12 i (nI 0) 0 27 + nI 1)) := by
          rw [if_neg hd]
          by_cases h2 : o = -1
          · rw [if_pos h2]
          · rw [if_neg h2, if_pos (by rcases hmt with h | h; exact absurd h h2; exact h)]
        have f : ∀ p q, me_st (me_st s 12 i (nI 0)) 0 27 (me_st s 12 i (nI 0) 0 27 + nI 1) p q = if p = 0 ∧ q = 27 then s 0 27 + nI 1 else if p = 12 ∧ q = i then 0 else s p q := by
          intro p q
          have e0 : nI 0 = (0 : Int32) := nI_0
          clear ih es
          simp only [me_st_eq]
          grind
        generalize me_st (me_st s 12 i (nI 0)) 0 27 (me_st s 12 i (nI 0) 0 27 + nI 1) = s1 at es f
        obtain ⟨s', k1, k2, k3, k4, k5, k6⟩ := ih (i + 1) s1 (by omega) (by omega)
        refine ⟨s', es.trans k1, ?_, fun p h4 h5 => ?_, fun q hq => ?_, fun q hq => ?_, fun q h4 h5 h6 => ?_⟩
        · rw [k2, if_neg c1, f, if_pos ⟨rfl, rfl⟩, r_d_congr (f := s1 12) (g := s 12) o _ _ (fun j hj => by rw [f, if_neg (by omega), if_neg (by omega)]), Int32.add_assoc, nI_add]
        · rw [k3 p h4 h5]
          funext q
          rw [f, if_neg (by omega), if_neg (by omega)]
        · rw [k4 q hq, f, if_neg (by omega), if_neg (by omega)]
        · rcases k5 q hq with h4 | h4
          · rw [h4, f, if_neg (by omega)]
            by_cases hqi : q = i
            · subst hqi
              rw [if_pos ⟨rfl, rfl⟩]
              exact Or.inr ⟨rfl, hmt⟩
            · rw [if_neg (by omega)]
              exact Or.inl rfl
          · exact Or.inr h4
        · by_cases hqi : q = i
          · subst hqi
            rcases k5 q h5 with q1 | q1
            · rw [q1, f, if_neg (by omega), if_pos ⟨rfl, rfl⟩]
            · exact q1.1
          · exact k6 q (by omega) h5 h6
def r_cl (B : Nat) (σ τ σ' τ' : me_M) : Prop := rl B σ' τ' ∧ (∀ k b, k < 4 → b ≠ 3 → σ' (94 + 2 * k) b = σ (94 + 2 * k) b) ∧ (∀ k, k ≠ 4 → k ≠ 6 → k ≠ 7 → k ≠ 11 → σ' 0 k = σ 0 k) ∧ (∀ a, 10 ≤ a → a ≠ 12 → τ' a = τ a) ∧ (∀ k, k ≠ 18 → k ≠ 24 → k ≠ 26 → k ≠ 27 → τ' 0 k = τ 0 k)
theorem sim_clean {B a b z : Nat} {o : Int32} {σ τ σ' τ' : me_M} (hab : a ≤ b) (hb : b < 4) (hm : ∀ i, i < 4 → (r_mt o i ↔ a ≤ i ∧ i ≤ b)) (h : rl B σ τ) (hz : z = r_d (τ 12) o 4 0) (f : ∀ p q, σ' p q = if p = 0 ∧ q = 7 then σ 0 7 + nI z else if (94 + 2 * a ≤ p ∧ p ≤ 94 + 2 * b ∧ p % 2 = 0) ∧ q = 3 then 0 else σ p q) (k2 : τ' 0 27 = τ 0 27 + nI (r_d (τ 12) o (4 - 0) 0)) (k3 : ∀ p, p ≠ 0 → p ≠ 12 → τ' p = τ p) (k4 : ∀ q, q ≠ 27 → τ' 0 q = τ 0 q) (k5 : ∀ q, q < 4 → τ' 12 q = τ 12 q ∨ (τ' 12 q = 0 ∧ r_mt o q)) (k6 : ∀ q, 0 ≤ q → q < 4 → r_mt o q → τ' 12 q = 0) : r_cl B σ τ σ' τ' := by
  have g1 : ∀ p, p ≠ 0 → (p < 94 ∨ p % 2 = 1) → σ' p = σ p := fun p h0 h1 => by funext q; rw [f, if_neg (by omega), if_neg (by omega)]
  have g2 : ∀ q, q ≠ 7 → σ' 0 q = σ 0 q := fun q hq => by rw [f, if_neg (by omega), if_neg (by omega)]
  have g3 : ∀ k b, b ≠ 3 → σ' (94 + 2 * k) b = σ (94 + 2 * k) b := fun k b hb => by rw [f, if_neg (by omega), if_neg (by omega)]
  have g5 : ∀ k, σ' (94 + 2 * k + 1) = σ (94 + 2 * k + 1) := fun k => g1 _ (by omega) (by omega)
  obtain ⟨hD, ⟨p0, p1, p2, p3, p4⟩, hL, hI, hJ, hG, hE, hA, hW, q1, q2, q3, q4⟩ := h
  refine ⟨⟨r_D_s (fun a _ _ => g1 a (by omega) (by omega)) (r_D_t (fun a _ _ => k3 a (by omega) (by omega)) hD), ⟨?_, ?_, ?_, ?_, ?_⟩, ?_, ?_, ?_, ?_, ⟨?_, ?_⟩, ?_, ?_, ?_, ?_, ?_, ?_⟩, fun k b _ hb => g3 k b hb, fun k _ _ h7 _ => g2 k h7, fun a h10 h12 => k3 a (by omega) h12, fun k _ _ _ h27 => k4 k h27⟩
  · rw [g2 4 (by omega), k4 24 (by omega)]; exact p0
  · rw [g2 6 (by omega), k4 26 (by omega)]; exact p1
  · rw [f, if_pos ⟨rfl, rfl⟩, k2, p2, hz]
  · rw [g2 8 (by omega), k4 28 (by omega)]; exact p3
  · rw [g2 14 (by omega), k4 23 (by omega)]; exact p4
  · intro r hr
    rw [g1 (70 + 2 * r) (by omega) (by omega), k3 6 (by omega) (by omega), k3 7 (by omega) (by omega), k3 8 (by omega) (by omega), k3 9 (by omega) (by omega)]
    exact hL r hr
  · intro a h7 h9
    rw [g1 a (by omega) (by omega)]
    exact hI a h7 h9
  · intro i hi
    rw [k3 15 (by omega) (by omega), k3 16 (by omega) (by omega), k3 17 (by omega) (by omega)]
    exact hJ i hi
  · intro k hk
    obtain ⟨d1, d2, d3⟩ := hG k hk
    rw [g3 k 1 (by omega), g3 k 2 (by omega), g5, k3 10 (by omega) (by omega), k3 11 (by omega) (by omega), k3 14 (by omega) (by omega)]
    refine ⟨d1, ?_, d3⟩
    by_cases c : a ≤ k ∧ k ≤ b
    · rw [f, if_neg (by omega), if_pos (by omega), k6 k (by omega) hk ((hm k hk).mpr c)]
    · rw [f, if_neg (by omega), if_neg (by omega), d2]
      rcases k5 k hk with h1 | h1
      · exact h1.symm
      · exact absurd ((hm k hk).mp h1.2) c
  · intro k hk
    rw [g3 k 1 (by omega), g3 k 2 (by omega), g5]
    refine ⟨fun h1 => ?_, (hE.1 k hk).2⟩
    obtain ⟨y1, y2, y3⟩ := (hE.1 k hk).1 h1
    refine ⟨y1, ?_, y3⟩
    rw [f]
    split
    · omega
    · split
      · rfl
      · exact y2
  · intro k l hk hl
    rw [g3 k 1 (by omega), g3 l 1 (by omega)]
    exact hE.2 k l hk hl
  · unfold r_A at hA ⊢
    have e4 : ∀ k, σ' (94 + 2 * k) 4 = σ (94 + 2 * k) 4 := fun k => g3 k 4 (by omega)
    simp only [e4, k3 10 (by omega) (by omega), k3 13 (by omega) (by omega), g2 13 (by omega), k4 16 (by omega)]
    exact hA
  · unfold r_W at hW ⊢
    have e71 : ∀ k, σ' (70 + 2 * (k % 12) + 1) = σ (70 + 2 * (k % 12) + 1) := fun k => g1 _ (by omega) (by omega)
    simp only [e71, g2 12 (by omega), g2 11 (by omega), g2 3 (by omega), g2 5 (by omega), k3 15 (by omega) (by omega), k3 16 (by omega) (by omega), k3 17 (by omega) (by omega), k3 18 (by omega) (by omega)]
    exact hW
  · rw [g2 3 (by omega), k4 10 (by omega)]; exact q1
  · rw [g2 12 (by omega), k4 17 (by omega)]; exact q2
  · rw [g2 5 (by omega), k4 25 (by omega)]; exact q3
  · rw [g2 11 (by omega), k4 18 (by omega)]; exact q4
theorem sim_cd {B a b : Nat} {o : Int32} {σ τ σ' τ' : me_M} {r q : Int32} (hB : B ≤ 90000) (hab : a ≤ b) (hb : b < 4) (hm : ∀ i, i < 4 → (r_mt o i ↔ a ≤ i ∧ i ≤ b)) (h : rl B σ τ) (e1 : k_cd a b σ = (r, σ')) (e2 : m_cl o τ = (q, τ')) : (∃ z, z ≤ 4 ∧ r = nI z ∧ q = nI 1 ∧ r_cl B σ τ σ' τ' ∧ τ' 0 27 = τ 0 27 + nI z ∧ σ' 0 11 = nI 0 ∧ ∀ k, k < 4 → a ≤ k → k ≤ b → σ' (94 + 2 * k) 3 = 0) ∨ (r = -3 ∧ q = nI 0 ∧ r_f B σ' τ') := by
  simp only [k_cd] at e1
  simp only [m_cl] at e2
  rcases el : k_lw σ with ⟨r1, σ1⟩
  rcases em : m_lw τ with ⟨q1, τ1⟩
  rw [el] at e1
  rw [em] at e2
  dsimp only at e1 e2
  rcases sim_lw hB h el em with ⟨w, hw, ew, rfl, rfl, hk, hw0⟩ | ⟨rfl, rfl, hf⟩
  · rw [if_neg (nI_m3 (by omega))] at e1
    rw [if_neg (by decide)] at e2
    rcases sim_c13 hab hb hm 5 5 0 a 0 σ1 τ1 hk.1 (by omega) (by omega) (by omega) (by omega) (by omega) (by omega) (by omega) with ⟨σ2, τ2, k1, k2, k3⟩ | ⟨σ2, τ2, k1, k2, k3⟩
    · rw [k2, Nat.zero_add] at e1
      rw [k3] at e2
      have eb : nI b < nI (b + 1) := nI_lt (by omega) (by omega)
      simp only [k_cd_17] at e1
      rw [if_pos eb] at e1
      rcases sim_c59 hab hb hm 5 5 0 a σ2 τ2 k1.1 (by omega) (by omega) (by omega) (by omega) (by omega) (by omega) with ⟨σ3, τ3, l1, l2, l3⟩ | ⟨σ3, τ3, l1, l2, l3⟩
      · have l2 : k_wdh a b σ2 = (nI 1, σ3) := l2
        rw [l2] at e1
        dsimp only at e1
        rw [if_neg (by decide)] at e1
        rw [l3] at e2
        obtain ⟨s4, m1, m2⟩ := s_cd95 5 a b (r_d (τ1 12) o (4 - 0) 0) a σ3 (by omega) hb (by omega)
        obtain ⟨t4, n1, n2, n3, n4, n5, n6⟩ := s_c114 o 5 0 τ3 (by omega) (by omega)
        rw [m1] at e1
        rw [n1] at e2
        cases e1
        cases e2
        have ed : τ3 12 = τ1 12 := (l1.2.2.2.1 12 (by omega)).trans (k1.2.2.2.1 12 (by omega))
        have hc := sim_clean hab hb hm l1.1 (by rw [ed]) m2 n2 n3 n4 n5 n6
        have ok := (k1.tr l1)
        refine Or.inl ⟨_, r_d_le _ _ _ _, rfl, rfl, ⟨hc.1, fun k y hk4 hy => ?_, fun k h4 h6 h7 h11 => ?_, fun p h10 h12 => ?_, fun k h18 h24 h26 h27 => ?_⟩, ?_, ?_, fun k hk4 ha hb' => ?_⟩
        · rw [hc.2.1 k y hk4 hy, ok.2.1 _ (by omega), hk.2.1 _ (by omega)]
        · rw [hc.2.2.1 k h4 h6 h7 h11, ok.2.2.1 k h4 h6, hk.2.2.1 k h4 h6 h11]
        · rw [hc.2.2.2.1 p h10 h12, ok.2.2.2.1 p (by omega), hk.2.2.2.1 p h10]
        · rw [hc.2.2.2.2 k h18 h24 h26 h27, ok.2.2.2.2 k h24 h26, hk.2.2.2.2 k h18 h24 h26]
        · rw [n2, ok.2.2.2.2 27 (by omega) (by omega), hk.2.2.2.2 27 (by omega) (by omega) (by omega), ed]
        · rw [m2, if_neg (by omega), if_neg (by omega), ok.2.2.1 11 (by omega) (by omega)]
          exact hw0
        · rw [m2, if_neg (by omega), if_pos (by omega)]
      · have l1 : k_wdh a b σ2 = (nI 0, σ3) := l1
        rw [l1] at e1
        dsimp only at e1
        rw [if_pos nI_0] at e1
        rw [l2] at e2
        cases e1
        cases e2
        exact Or.inr ⟨rfl, rfl, l3⟩
    · rw [k1] at e1
      rw [k2] at e2
      cases e1
      cases e2
      exact Or.inr ⟨rfl, rfl, k3⟩
  · rw [if_pos rfl] at e1
    rw [if_pos nI_0] at e2
    cases e1
    cases e2
    exact Or.inr ⟨rfl, rfl, hf⟩
