/-! SIMULATION 7: a page is brought -/
theorem s_fo_none {x : Int32} {s : me_M} : ∀ (n i : Nat), i ≤ 4 → 5 ≤ n + i → k_fo_2 n x i s = -1 → ∀ j, i ≤ j → j < 4 → ¬ s (94 + 2 * j) 1 = x := by
  intro n
  induction n with
  | zero => intro i h1 h2; omega
  | succ n ih =>
    intro i h1 h2 h j hj h4
    have e : nI 4 ≤ nI i ↔ 4 ≤ i := nI_leI (by omega) (by omega)
    simp only [k_fo_2, e] at h
    rw [if_neg (by omega)] at h
    by_cases c : s (94 + 2 * i) 1 = x
    · rw [if_pos c] at h
      exact absurd h (nI_m1 (by omega))
    · rw [if_neg c] at h
      by_cases hji : j = i
      · rw [hji]; exact c
      · exact ih (i + 1) (by omega) (by omega) h j (by omega) h4
def s_kf (g k : Nat) (s : me_M) : me_M := me_st (me_st (k_fill k (nI g) g s) 0 13 ((k_fill k (nI g) g s) 0 13 + nI 1)) (94 + 2 * k) 4 (me_st (k_fill k (nI g) g s) 0 13 ((k_fill k (nI g) g s) 0 13 + nI 1) 0 13)
def s_mf0 (g k : Nat) (s : me_M) : me_M := m_br_176 17 g (nI k) 0 (me_st (me_st (me_st s 10 k (nI g)) 11 k (me_st s 10 k (nI g) 1 (4 * g))) 12 k (nI 0))
def s_mf (g k : Nat) (s : me_M) : me_M := me_st (me_st (s_mf0 g k s) 0 16 ((s_mf0 g k s) 0 16 + nI 1)) 13 k (me_st (s_mf0 g k s) 0 16 ((s_mf0 g k s) 0 16 + nI 1) 0 16)
theorem s_kf_eq (g k : Nat) (s : me_M) (hg : g < 12) (hk : k < 4) (a b : Nat) : s_kf g k s a b = if a = 94 + 2 * k ∧ b = 4 then s 0 13 + nI 1 else if a = 0 ∧ b = 13 then s 0 13 + nI 1 else if a = 94 + 2 * k + 1 ∧ b < 16 then s (6 + 4 * g + 1) b else if a = 94 + 2 * k ∧ b = 1 then nI g else if a = 94 + 2 * k ∧ b = 2 then s (6 + 4 * g + 2) 0 else if a = 94 + 2 * k ∧ b = 3 then 0 else s a b := by
  have f := fun a b => s_fill k (nI g) g s (by omega) hk a b
  unfold s_kf
  generalize k_fill k (nI g) g s = s1 at f ⊢
  have f0 : s1 0 13 = s 0 13 := by rw [f, if_neg (by omega), if_neg (by omega), if_neg (by omega), if_neg (by omega)]
  simp only [me_st_eq, f0, f]
  grind
theorem s_mf_eq (g k : Nat) (s : me_M) (hg : g < 12) (hk : k < 4) (a b : Nat) : s_mf g k s a b = if a = 13 ∧ b = k then s 0 16 + nI 1 else if a = 0 ∧ b = 16 then s 0 16 + nI 1 else if a = 14 ∧ 16 * k ≤ b ∧ b < 16 * k + 16 then s 2 (16 * g + (b - 16 * k)) else if a = 12 ∧ b = k then 0 else if a = 11 ∧ b = k then s 1 (4 * g) else if a = 10 ∧ b = k then nI g else s a b := by
  have f := fun a b => s_br176 17 g (nI k) 0 (me_st (me_st (me_st s 10 k (nI g)) 11 k (me_st s 10 k (nI g) 1 (4 * g))) 12 k (nI 0)) (by omega) (by omega) a b
  rw [nI_clamp (by omega)] at f
  have e0 : nI 0 = (0 : Int32) := nI_0
  unfold s_mf
  change ∀ a b, s_mf0 g k s a b = _ at f
  generalize s_mf0 g k s = s1 at f ⊢
  simp only [me_st_eq] at f
  have f0 : s1 0 16 = s 0 16 := by rw [f, if_neg (by omega), if_neg (by omega), if_neg (by omega), if_neg (by omega)]
  simp only [me_st_eq, f0, f]
  grind
theorem sim_fill {B g k : Nat} {σ τ : me_M} (hB : B ≤ 90000) (h : rl B σ τ) (hg : g < 12) (hk : k < 4) (ho : ∀ l, l < 4 → ¬ τ 10 l = nI g) : rl (B + 1) (s_kf g k σ) (s_mf g k τ) ∧ (s_mf g k τ) 10 k = nI g ∧ (s_kf g k σ) (94 + 2 * k) 4 = (s_kf g k σ) 0 13 ∧ ∀ b, b ≠ 13 → (s_kf g k σ) 0 b = σ 0 b := by
  have f1 := fun a b => s_kf_eq g k σ hg hk a b
  have f2 := fun a b => s_mf_eq g k τ hg hk a b
  generalize s_kf g k σ = σ' at f1 ⊢
  generalize s_mf g k τ = τ' at f2 ⊢
  obtain ⟨d1, d2⟩ := h.1.1 g hg
  refine ⟨sim_top (k := k) (g := g) hB h hg hk (fun l hl _ => ho l hl) (fun a h0 h1 h2 => ?_) (fun b hb => ?_) (fun a ha h0 => ?_) (fun b hb => ?_) (fun l hl hn => ⟨?_, ?_, ?_, ?_, fun w hw => ?_⟩) ?_ ?_ ?_ ?_ ?_ ?_ ?_ ?_ (fun w hw => ?_), ?_, ?_, fun b hb => ?_⟩
  · funext b; rw [f1, if_neg (by omega), if_neg (by omega), if_neg (by omega), if_neg (by omega), if_neg (by omega), if_neg (by omega)]
  · rw [f1, if_neg (by omega), if_neg (by omega), if_neg (by omega), if_neg (by omega), if_neg (by omega), if_neg (by omega)]
  · funext b; rw [f2, if_neg (by omega), if_neg (by omega), if_neg (by omega), if_neg (by omega), if_neg (by omega), if_neg (by omega)]
  · rw [f2, if_neg (by omega), if_neg (by omega), if_neg (by omega), if_neg (by omega), if_neg (by omega), if_neg (by omega)]
  · rw [f2, if_neg (by omega), if_neg (by omega), if_neg (by omega), if_neg (by omega), if_neg (by omega), if_neg (by omega)]
  · rw [f2, if_neg (by omega), if_neg (by omega), if_neg (by omega), if_neg (by omega), if_neg (by omega), if_neg (by omega)]
  · rw [f2, if_neg (by omega), if_neg (by omega), if_neg (by omega), if_neg (by omega), if_neg (by omega), if_neg (by omega)]
  · rw [f2, if_neg (by omega), if_neg (by omega), if_neg (by omega), if_neg (by omega), if_neg (by omega), if_neg (by omega)]
  · rw [f2, if_neg (by omega), if_neg (by omega), if_neg (by omega), if_neg (by omega), if_neg (by omega), if_neg (by omega)]
  · rw [f1, if_neg (by omega), if_pos ⟨rfl, rfl⟩]
  · rw [f1, if_pos ⟨rfl, rfl⟩]
  · rw [f2, if_neg (by omega), if_pos ⟨rfl, rfl⟩]
  · rw [f2, if_pos ⟨rfl, rfl⟩]
  · rw [f1, if_neg (by omega), if_neg (by omega), if_neg (by omega), if_pos ⟨rfl, rfl⟩]
  · rw [f2, if_neg (by omega), if_neg (by omega), if_neg (by omega), if_neg (by omega), if_neg (by omega), if_pos ⟨rfl, rfl⟩]
  · rw [f1, if_neg (by omega), if_neg (by omega), if_neg (by omega), if_neg (by omega), if_neg (by omega), if_pos ⟨rfl, rfl⟩, f2, if_neg (by omega), if_neg (by omega), if_neg (by omega), if_pos ⟨rfl, rfl⟩]
  · rw [f1, if_neg (by omega), if_neg (by omega), if_neg (by omega), if_neg (by omega), if_pos ⟨rfl, rfl⟩, f2, if_neg (by omega), if_neg (by omega), if_neg (by omega), if_neg (by omega), if_pos ⟨rfl, rfl⟩]
    exact (d1 0 (by omega)).1
  · rw [f1, if_neg (by omega), if_neg (by omega), if_pos ⟨rfl, hw⟩, f2, if_neg (by omega), if_neg (by omega), if_pos (by omega), d2 w hw]
    congr 1
    omega
  · rw [f2, if_neg (by omega), if_neg (by omega), if_neg (by omega), if_neg (by omega), if_neg (by omega), if_pos ⟨rfl, rfl⟩]
  · rw [f1, if_pos ⟨rfl, rfl⟩, f1, if_neg (by omega), if_pos ⟨rfl, rfl⟩]
  · rw [f1, if_neg (by omega), if_neg (by omega), if_neg (by omega), if_neg (by omega), if_neg (by omega), if_neg (by omega)]
def s_kt (k : Nat) (s : me_M) : me_M := me_st (me_st s 0 13 (s 0 13 + nI 1)) (94 + 2 * k) 4 (me_st s 0 13 (s 0 13 + nI 1) 0 13)
def s_mt (k : Nat) (s : me_M) : me_M := me_st (me_st s 0 16 (s 0 16 + nI 1)) 13 k (me_st s 0 16 (s 0 16 + nI 1) 0 16)
theorem s_kt_eq (k : Nat) (s : me_M) (a b : Nat) : s_kt k s a b = if a = 94 + 2 * k ∧ b = 4 then s 0 13 + nI 1 else if a = 0 ∧ b = 13 then s 0 13 + nI 1 else s a b := by
  simp only [s_kt, me_st_eq]
  grind
theorem s_mt_eq (k : Nat) (s : me_M) (a b : Nat) : s_mt k s a b = if a = 13 ∧ b = k then s 0 16 + nI 1 else if a = 0 ∧ b = 16 then s 0 16 + nI 1 else s a b := by
  simp only [s_mt, me_st_eq]
  grind
theorem sim_touch {B g k : Nat} {σ τ : me_M} (hB : B ≤ 90000) (h : rl B σ τ) (hg : g < 12) (hk : k < 4) (hp : τ 10 k = nI g) : rl (B + 1) (s_kt k σ) (s_mt k τ) ∧ (s_mt k τ) 10 k = nI g ∧ (s_kt k σ) (94 + 2 * k) 4 = (s_kt k σ) 0 13 ∧ ∀ b, b ≠ 13 → (s_kt k σ) 0 b = σ 0 b := by
  have f1 := fun a b => s_kt_eq k σ a b
  have f2 := fun a b => s_mt_eq k τ a b
  generalize s_kt k σ = σ' at f1 ⊢
  generalize s_mt k τ = τ' at f2 ⊢
  obtain ⟨g1, g2, g3⟩ := h.2.2.2.2.2.1 k hk
  have hpn : ¬ τ 10 k = -1 := by rw [hp]; exact nI_m1 (by omega)
  have hE := h.2.2.2.2.2.2.1.2
  refine ⟨sim_top (k := k) (g := g) hB h hg hk (fun l hl hn q => ?_) (fun a h0 h1 h2 => ?_) (fun b hb => ?_) (fun a ha h0 => ?_) (fun b hb => ?_) (fun l hl hn => ⟨?_, ?_, ?_, ?_, fun w hw => ?_⟩) ?_ ?_ ?_ ?_ ?_ ?_ ?_ ?_ (fun w hw => ?_), ?_, ?_, fun b hb => ?_⟩
  · refine hE k l hk hl (Ne.symm hn) (by rw [g1]; exact hpn) ?_
    rw [g1, (h.2.2.2.2.2.1 l hl).1, hp, q]
  · funext b; rw [f1, if_neg (by omega), if_neg (by omega)]
  · rw [f1, if_neg (by omega), if_neg (by omega)]
  · funext b; rw [f2, if_neg (by omega), if_neg (by omega)]
  · rw [f2, if_neg (by omega), if_neg (by omega)]
  · rw [f2, if_neg (by omega), if_neg (by omega)]
  · rw [f2, if_neg (by omega), if_neg (by omega)]
  · rw [f2, if_neg (by omega), if_neg (by omega)]
  · rw [f2, if_neg (by omega), if_neg (by omega)]
  · rw [f2, if_neg (by omega), if_neg (by omega)]
  · rw [f1, if_neg (by omega), if_pos ⟨rfl, rfl⟩]
  · rw [f1, if_pos ⟨rfl, rfl⟩]
  · rw [f2, if_neg (by omega), if_pos ⟨rfl, rfl⟩]
  · rw [f2, if_pos ⟨rfl, rfl⟩]
  · rw [f1, if_neg (by omega), if_neg (by omega), g1]; exact hp
  · rw [f2, if_neg (by omega), if_neg (by omega)]; exact hp
  · rw [f1, if_neg (by omega), if_neg (by omega), f2, if_neg (by omega), if_neg (by omega)]; exact g2
  · rw [f1, if_neg (by omega), if_neg (by omega), f2, if_neg (by omega), if_neg (by omega)]; exact (g3 hpn).1
  · rw [f1, if_neg (by omega), if_neg (by omega), f2, if_neg (by omega), if_neg (by omega)]; exact (g3 hpn).2 w hw
  · rw [f2, if_neg (by omega), if_neg (by omega)]; exact hp
  · rw [f1, if_pos ⟨rfl, rfl⟩, f1, if_neg (by omega), if_pos ⟨rfl, rfl⟩]
  · rw [f1, if_neg (by omega), if_neg (by omega)]
/-- the reference's page is there -/
theorem m_br_hit {g k : Nat} {s : me_M} (hk : k < 4) (hs : s 10 k = nI g) (ho : ∀ j, j < 4 → j ≠ k → ¬ s 10 j = nI g) : m_br g s = (nI k, s_mt k s) := by
  have e := b4_one hk hs ho 5 (-1) 0 (by omega) (by omega)
  unfold m_br
  rw [e]
  dsimp only
  rw [if_neg (nI_m1 (by omega)), nI_clamp (by omega)]
  rfl
theorem k_br_hit {g k : Nat} {s : me_M} (hk : k < 4) (e : k_fo (nI g) s = nI k) : k_br g s = (nI k, s_kt k s) := by
  unfold k_br
  rw [e]
  dsimp only
  rw [if_neg (nI_m1 (by omega)), nI_clamp (by omega)]
  rfl
theorem k_br_miss {g k : Nat} {s : me_M} (hk : k < 4) (e : k_fo (nI g) s = -1) (ef : k_ff s = nI k) : k_br g s = if s (94 + 2 * k) 3 = 0 then (nI k, s_kf g k s) else if (k_cd k k s).1 = -3 then (-3, (k_cd k k s).2) else (nI k, s_kf g k (k_cd k k s).2) := by
  unfold k_br
  rw [e, ef]
  dsimp only
  rw [if_pos rfl, nI_clamp (by omega)]
  rfl
theorem m_br_miss {g k : Nat} {s : me_M} (hk : k < 4) (e : ∀ j, j < 4 → ¬ s 10 j = nI g) (ef : m_br_41 5 g (-1) (nI 3) s = -1) (eo : m_br_83 4 g 0 1 s = k) : m_br g s = if s 12 k = 0 then (nI k, s_mf g k s) else if (m_cl (nI k) s).1 = 0 then (-1, (m_cl (nI k) s).2) else (nI k, s_mf g k (m_cl (nI k) s).2) := by
  unfold m_br
  rw [b4_none 5 (-1) 0 (by omega) (by omega) (fun j _ hj => e j hj)]
  dsimp only
  rw [if_pos rfl, ef, if_pos rfl, eo]
  rfl
theorem m_br_free {g k : Nat} {s : me_M} (hk : k < 4) (e : ∀ j, j < 4 → ¬ s 10 j = nI g) (ef : m_br_41 5 g (-1) (nI 3) s = nI k) : m_br g s = (nI k, s_mf g k s) := by
  unfold m_br
  rw [b4_none 5 (-1) 0 (by omega) (by omega) (fun j _ hj => e j hj)]
  dsimp only
  rw [if_pos rfl, ef, if_neg (nI_m1 (by omega)), nI_clamp (by omega)]
  rfl
theorem sim_br {B g : Nat} {σ τ σ' τ' : me_M} {r q : Int32} (hB : B ≤ 90000) (h : rl B σ τ) (hg : g < 12) (e1 : k_br g σ = (r, σ')) (e2 : m_br g τ = (q, τ')) : (∃ k, k < 4 ∧ r = nI k ∧ q = nI k ∧ rl (B + 1) σ' τ' ∧ τ' 10 k = nI g ∧ σ' (94 + 2 * k) 4 = σ' 0 13 ∧ ∀ b, b ≠ 4 → b ≠ 6 → b ≠ 7 → b ≠ 11 → b ≠ 13 → σ' 0 b = σ 0 b) ∨ (r = -3 ∧ q = -1 ∧ r_f B σ' τ') := by
  have hG := h.2.2.2.2.2.1
  have hE := h.2.2.2.2.2.2.1
  by_cases c : k_fo (nI g) σ = -1
  · have hn : ∀ j, j < 4 → ¬ τ 10 j = nI g := fun j hj q => s_fo_none 5 0 (by omega) (by omega) c j (by omega) hj (by rw [(hG j hj).1]; exact q)
    obtain ⟨α, β, ca, cb, a1, a2, a3, a4, a5, a6⟩ := h.2.2.2.2.2.2.2.1
    have hα : ∀ k, k < 4 → σ (94 + 2 * k) 4 = nI (α k) ∧ α k < 2 ^ 31 := fun k hk => ⟨(a5 k hk).1, by have := (a5 k hk).2.1; omega⟩
    have ef := s_ff hα
    rcases s_free (g := g) (s := τ) with ⟨k, hk, f1, f2, f3⟩ | ⟨f1, f2⟩
    · have ek : r_fm α = k := r_fm_free hk ((a5 k hk).2.2.1 f2) (fun j hj => ((a5 j (by omega)).2.2.2 (f3 j hj)).1)
      rw [ek] at ef
      rw [k_br_miss hk c ef, if_pos (((hE.1 k hk).1 (by rw [(hG k hk).1]; exact f2)).2.1)] at e1
      rw [m_br_free hk hn f1] at e2
      cases e1
      cases e2
      obtain ⟨x1, x2, x3, x4⟩ := sim_fill hB h hg hk hn
      exact Or.inl ⟨k, hk, rfl, rfl, x1, x2, x3, fun b _ _ _ _ hb => x4 b hb⟩
    · have hβ : ∀ k, k < 4 → τ 13 k = nI (β k) ∧ β k < 2 ^ 31 := fun k hk => ⟨((a5 k hk).2.2.2 (f2 k hk)).2.1, by have := ((a5 k hk).2.2.2 (f2 k hk)).2.2; omega⟩
      have eo := s_b83 (g := g) hβ
      have es : r_fm α = r_fm β := r_fm_same (fun k l hk hl hn => a6 k l hk hl hn (f2 k hk) (f2 l hl))
      have hk := r_fm_lt β
      rw [es] at ef
      generalize r_fm β = k at ef eo hk
      rw [k_br_miss hk c ef] at e1
      rw [m_br_miss hk hn f1 eo] at e2
      by_cases hd : τ 12 k = 0
      · rw [if_pos (by rw [(hG k hk).2.1]; exact hd)] at e1
        rw [if_pos hd] at e2
        cases e1
        cases e2
        obtain ⟨x1, x2, x3, x4⟩ := sim_fill hB h hg hk hn
        exact Or.inl ⟨k, hk, rfl, rfl, x1, x2, x3, fun b _ _ _ _ hb => x4 b hb⟩
      · rw [if_neg (by rw [(hG k hk).2.1]; exact hd)] at e1
        rw [if_neg hd] at e2
        rcases ec : k_cd k k σ with ⟨r1, σ1⟩
        rcases em : m_cl (nI k) τ with ⟨q1, τ1⟩
        rw [ec] at e1
        rw [em] at e2
        dsimp only at e1 e2
        rcases sim_cd hB (Nat.le_refl k) hk (r_mt_one hk) h ec em with ⟨z, hz, rfl, rfl, hc, -, -, -⟩ | ⟨rfl, rfl, hf⟩
        · rw [if_neg (nI_m3 (by omega))] at e1
          rw [if_neg (by decide)] at e2
          cases e1
          cases e2
          obtain ⟨x1, x2, x3, x4⟩ := sim_fill hB hc.1 hg hk (fun l hl => by rw [hc.2.2.2.1 10 (by omega) (by omega)]; exact hn l hl)
          exact Or.inl ⟨k, hk, rfl, rfl, x1, x2, x3, fun b h4 h6 h7 h11 hb => (x4 b hb).trans (hc.2.2.1 b h4 h6 h7 h11)⟩
        · rw [if_pos rfl] at e1
          rw [if_pos nI_0] at e2
          cases e1
          cases e2
          exact Or.inr ⟨rfl, rfl, hf⟩
  · obtain ⟨k, hk, f1, f2, f3⟩ := pu_fo rfl c
    have hp : τ 10 k = nI g := by rw [← (hG k hk).1]; exact f2
    have hpn : ¬ σ (94 + 2 * k) 1 = -1 := by rw [f2]; exact nI_m1 (by omega)
    rw [k_br_hit hk f1] at e1
    rw [m_br_hit hk hp (fun j hj hn q => hE.2 k j hk hj (Ne.symm hn) hpn (by rw [f2, (hG j hj).1]; exact q.symm))] at e2
    cases e1
    cases e2
    obtain ⟨x1, x2, x3, x4⟩ := sim_touch hB h hg hk hp
    exact Or.inl ⟨k, hk, rfl, rfl, x1, x2, x3, fun b _ _ _ _ hb => x4 b hb⟩
