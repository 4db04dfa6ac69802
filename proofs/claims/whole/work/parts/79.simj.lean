/-! SIMULATION 10: change -/
def s_kw (k t : Nat) (v : Int32) (s : me_M) : me_M := let s41 := k_set (70 + 2 * ((k_fm (s 0 12) (nI 12)).toNatClampNeg) + 1) (s 0 12) (s (94 + 2 * k) 1) (nI t) v s; let s53 := k_cw k t v (s41 0 12) s41; let s63 := me_st s53 0 11 ((s53 0 11) + (nI 1)); me_st s63 0 12 ((s63 0 12) + (nI 1))
def s_mw (k g b i : Nat) (v : Int32) (s : me_M) : me_M := let s141 := me_st s 14 (16 * k + b + i) v; let s152 := me_st s141 11 k (s141 0 17); let s160 := me_st s152 12 k (nI 1); let s173 := me_st s160 15 ((s160 0 18).toNatClampNeg) (s160 0 17); let s183 := me_st s173 16 ((s173 0 18).toNatClampNeg) (nI g); let s196 := me_st s183 17 ((s183 0 18).toNatClampNeg) (nI (b + i)); let s207 := me_st s196 18 ((s196 0 18).toNatClampNeg) v; let s215 := me_st s207 0 18 ((s207 0 18) + (nI 1)); me_st s215 0 17 ((s215 0 17) + (nI 1))
theorem s_kw_eq {n k t : Nat} {v : Int32} {s : me_M} (hn : s 0 12 = nI n) (hn2 : n < 2 ^ 30) (hk : k < 4) (a b : Nat) : s_kw k t v s a b = if a = 0 ∧ b = 12 then s 0 12 + nI 1 else if a = 0 ∧ b = 11 then s 0 11 + nI 1 else if a = 94 + 2 * k + 1 ∧ b = t then v else if a = 94 + 2 * k ∧ b = 2 then s 0 12 else if a = 94 + 2 * k ∧ b = 3 then 1 else if a = 70 + 2 * (n % 12) + 1 ∧ b = 0 then s 0 12 else if a = 70 + 2 * (n % 12) + 1 ∧ b = 1 then s (94 + 2 * k) 1 else if a = 70 + 2 * (n % 12) + 1 ∧ b = 2 then nI t else if a = 70 + 2 * (n % 12) + 1 ∧ b = 3 then v else s a b := by
  have er : (k_fm (s 0 12) (nI 12)).toNatClampNeg = n % 12 := by rw [hn, pu_fm (by omega), nI_clamp (by omega)]
  unfold s_kw
  rw [er]
  have hr : n % 12 < 12 := Nat.mod_lt _ (by omega)
  generalize n % 12 = r at *
  have f1 := fun a b => s_set (70 + 2 * r + 1) (s 0 12) (s (94 + 2 * k) 1) (nI t) v s a b
  generalize k_set (70 + 2 * r + 1) (s 0 12) (s (94 + 2 * k) 1) (nI t) v s = s1 at f1 ⊢
  have e0 : ∀ b, s1 0 b = s 0 b := fun b => by rw [f1, if_neg (by omega), if_neg (by omega), if_neg (by omega), if_neg (by omega)]
  have f2 := fun a b => s_cw k t v (s1 0 12) s1 a b
  generalize k_cw k t v (s1 0 12) s1 = s2 at f2 ⊢
  have e1 : ∀ b, s2 0 b = s 0 b := fun b => by rw [f2, if_neg (by omega), if_neg (by omega), if_neg (by omega), e0]
  simp only [me_st_eq, e1, f2, e0, f1]
  grind
theorem s_mw_eq {k g bb i w : Nat} {v : Int32} {s : me_M} (hw : s 0 18 = nI w) (hw2 : w < 2 ^ 31) (a b : Nat) : s_mw k g bb i v s a b = if a = 0 ∧ b = 17 then s 0 17 + nI 1 else if a = 0 ∧ b = 18 then s 0 18 + nI 1 else if a = 14 ∧ b = 16 * k + bb + i then v else if a = 11 ∧ b = k then s 0 17 else if a = 12 ∧ b = k then 1 else if a = 15 ∧ b = w then s 0 17 else if a = 16 ∧ b = w then nI g else if a = 17 ∧ b = w then nI (bb + i) else if a = 18 ∧ b = w then v else s a b := by
  have e1 : nI 1 = (1 : Int32) := rfl
  have ew : (s 0 18).toNatClampNeg = w := by rw [hw, nI_clamp hw2]
  unfold s_mw
  have c : ∀ (u : me_M) (p q : Nat) (y : Int32) (b : Nat), p ≠ 0 → me_st u p q y 0 b = u 0 b := fun u p q y b hp => by rw [me_st_c _ _ _ (Ne.symm hp)]
  simp only [c _ 14 _ _ _ (by omega), c _ 11 _ _ _ (by omega), c _ 12 _ _ _ (by omega), c _ 15 _ _ _ (by omega), c _ 16 _ _ _ (by omega), c _ 17 _ _ _ (by omega), c _ 18 _ _ _ (by omega), ew]
  simp only [me_st_eq]
  grind
/-- one word -/
theorem sim_word {B g k bb i n m : Nat} {v : Int32} {σ τ : me_M} (hB : B ≤ 89000) (h : rl B σ τ) (hg : g < 12) (hk : k < 4) (ht : bb + i < 16) (hp : τ 10 k = nI g) (hd : σ 0 5 = 0) (en : σ 0 12 = nI n) (hn : n < 2 ^ 30) (em : σ 0 3 = nI m) (hm : m < 2 ^ 30) (hr : n < m + 12) : rl (B + 1) (s_kw k (bb + i) v σ) (s_mw k g bb i v τ) ∧ (s_mw k g bb i v τ) 10 k = nI g ∧ (∀ b, b ≠ 11 → b ≠ 12 → (s_kw k (bb + i) v σ) 0 b = σ 0 b) ∧ (s_kw k (bb + i) v σ) 0 12 = nI (n + 1) ∧ (s_kw k (bb + i) v σ) (94 + 2 * k) 4 = σ (94 + 2 * k) 4 ∧ (s_mw k g bb i v τ) 0 0 = τ 0 0 := by
  obtain ⟨hD, ⟨p0, p1, p2, p3, p4⟩, hL, hI, hJ, hG, hE, ⟨α, β, ca, cb, a1, a2, a3, a4, a5, a6⟩, ⟨n', w, m', x1, x2, x3, h1, h2, h3, h4, h5⟩, q1, q2, q3, q4⟩ := h
  obtain rfl : n' = n := (nI_eq (by omega) (by omega)).mp (x1.symm.trans en)
  obtain rfl : m' = m := (nI_eq (by omega) (by omega)).mp (x3.symm.trans em)
  have f1 := fun a b => s_kw_eq (v := v) (t := bb + i) en hn hk a b
  have f2 := fun a b => s_mw_eq (k := k) (g := g) (bb := bb) (i := i) (v := v) (w := w) (q4.symm.trans x2) (by omega) a b
  generalize s_kw k (bb + i) v σ = σ' at f1 ⊢
  generalize s_mw k g bb i v τ = τ' at f2 ⊢
  obtain ⟨g1, g2, g3⟩ := hG k hk
  have hpn : ¬ τ 10 k = -1 := by rw [hp]; exact nI_m1 (by omega)
  have hrr : n' % 12 < 12 := Nat.mod_lt _ (by omega)
  have c0 : ∀ b, b ≠ 11 → b ≠ 12 → σ' 0 b = σ 0 b := fun b hb hb' => by rw [f1, if_neg (by omega), if_neg (by omega), if_neg (by omega), if_neg (by omega), if_neg (by omega), if_neg (by omega), if_neg (by omega), if_neg (by omega), if_neg (by omega)]
  have c1 : ∀ a, a ≠ 0 → a ≠ 94 + 2 * k → a ≠ 94 + 2 * k + 1 → a ≠ 70 + 2 * (n' % 12) + 1 → σ' a = σ a := fun a h0 h1 h2 h3 => by funext b; rw [f1, if_neg (by omega), if_neg (by omega), if_neg (by omega), if_neg (by omega), if_neg (by omega), if_neg (by omega), if_neg (by omega), if_neg (by omega), if_neg (by omega)]
  have d0 : ∀ b, b ≠ 17 → b ≠ 18 → τ' 0 b = τ 0 b := fun b hb hb' => by rw [f2, if_neg (by omega), if_neg (by omega), if_neg (by omega), if_neg (by omega), if_neg (by omega), if_neg (by omega), if_neg (by omega), if_neg (by omega), if_neg (by omega)]
  have d1 : ∀ a, a ≠ 0 → a ≠ 11 → a ≠ 12 → a ≠ 14 → a ≠ 15 → a ≠ 16 → a ≠ 17 → a ≠ 18 → τ' a = τ a := fun a _ _ _ _ _ _ _ _ => by funext b; rw [f2, if_neg (by omega), if_neg (by omega), if_neg (by omega), if_neg (by omega), if_neg (by omega), if_neg (by omega), if_neg (by omega), if_neg (by omega), if_neg (by omega)]
  have v12 : σ' 0 12 = nI (n' + 1) := by rw [f1, if_pos ⟨rfl, rfl⟩, x1, nI_add]
  have v11 : σ' 0 11 = nI (w + 1) := by rw [f1, if_neg (by omega), if_pos ⟨rfl, rfl⟩, x2, nI_add]
  have fk : ∀ b, b ≠ 2 → b ≠ 3 → σ' (94 + 2 * k) b = σ (94 + 2 * k) b := fun b hb hb' => by rw [f1, if_neg (by omega), if_neg (by omega), if_neg (by omega), if_neg (by omega), if_neg (by omega), if_neg (by omega), if_neg (by omega), if_neg (by omega), if_neg (by omega)]
  have t10 : τ' 10 = τ 10 := d1 10 (by omega) (by omega) (by omega) (by omega) (by omega) (by omega) (by omega) (by omega)
  have t13 : τ' 13 = τ 13 := d1 13 (by omega) (by omega) (by omega) (by omega) (by omega) (by omega) (by omega) (by omega)
  have e1 : ∀ l, l < 4 → σ' (94 + 2 * l) 1 = σ (94 + 2 * l) 1 := fun l hl => by
    by_cases c : l = k
    · rw [c]; exact fk 1 (by omega) (by omega)
    · rw [c1 _ (by omega) (by omega) (by omega) (by omega)]
  have e4 : ∀ l, l < 4 → σ' (94 + 2 * l) 4 = σ (94 + 2 * l) 4 := fun l hl => by
    by_cases c : l = k
    · rw [c]; exact fk 4 (by omega) (by omega)
    · rw [c1 _ (by omega) (by omega) (by omega) (by omega)]
  refine ⟨⟨r_D_s (fun a _ _ => c1 a (by omega) (by omega) (by omega) (by omega)) (r_D_t (fun a _ _ => d1 a (by omega) (by omega) (by omega) (by omega) (by omega) (by omega) (by omega) (by omega)) hD), ⟨?_, ?_, ?_, ?_, ?_⟩, ?_, ?_, ?_, ?_, ⟨?_, ?_⟩, ?_, ?_, ?_, ?_, ?_, ?_⟩, ?_, c0, v12, e4 k hk, d0 0 (by omega) (by omega)⟩
  · rw [c0 4 (by omega) (by omega), d0 24 (by omega) (by omega)]; exact p0
  · rw [c0 6 (by omega) (by omega), d0 26 (by omega) (by omega)]; exact p1
  · rw [c0 7 (by omega) (by omega), d0 27 (by omega) (by omega)]; exact p2
  · rw [c0 8 (by omega) (by omega), d0 28 (by omega) (by omega)]; exact p3
  · rw [c0 14 (by omega) (by omega), d0 23 (by omega) (by omega)]; exact p4
  · intro r hr
    rw [c1 (70 + 2 * r) (by omega) (by omega) (by omega) (by omega), d1 6 (by omega) (by omega) (by omega) (by omega) (by omega) (by omega) (by omega) (by omega), d1 7 (by omega) (by omega) (by omega) (by omega) (by omega) (by omega) (by omega) (by omega), d1 8 (by omega) (by omega) (by omega) (by omega) (by omega) (by omega) (by omega) (by omega), d1 9 (by omega) (by omega) (by omega) (by omega) (by omega) (by omega) (by omega) (by omega)]
    exact hL r hr
  · intro a h7 h9
    by_cases c : a = 70 + 2 * (n' % 12) + 1
    · subst c
      constructor
      · rw [f1, if_neg (by omega), if_neg (by omega), if_neg (by omega), if_neg (by omega), if_neg (by omega), if_neg (by omega), if_pos ⟨rfl, rfl⟩, g1, hp]
        exact vp_in_nI hg (by omega)
      · rw [f1, if_neg (by omega), if_neg (by omega), if_neg (by omega), if_neg (by omega), if_neg (by omega), if_neg (by omega), if_neg (by omega), if_pos ⟨rfl, rfl⟩]
        exact vp_in_nI ht (by omega)
    · rw [c1 a (by omega) (by omega) (by omega) c]
      exact hI a h7 h9
  · intro j hj
    by_cases c : j = w
    · subst c
      refine ⟨?_, ?_, ?_⟩
      · rw [f2, if_neg (by omega), if_neg (by omega), if_neg (by omega), if_neg (by omega), if_neg (by omega), if_pos ⟨rfl, rfl⟩, ← q2, x1]
        exact vp_in_nI (by omega) (by omega)
      · rw [f2, if_neg (by omega), if_neg (by omega), if_neg (by omega), if_neg (by omega), if_neg (by omega), if_neg (by omega), if_pos ⟨rfl, rfl⟩]
        exact vp_in_nI hg (by omega)
      · rw [f2, if_neg (by omega), if_neg (by omega), if_neg (by omega), if_neg (by omega), if_neg (by omega), if_neg (by omega), if_neg (by omega), if_pos ⟨rfl, rfl⟩]
        exact vp_in_nI ht (by omega)
    · have e : ∀ a, a = 15 ∨ a = 16 ∨ a = 17 → τ' a j = τ a j := fun a ha => by rw [f2, if_neg (by omega), if_neg (by omega), if_neg (by omega), if_neg (by omega), if_neg (by omega), if_neg (by omega), if_neg (by omega), if_neg (by omega), if_neg (by omega)]
      rw [e 15 (by omega), e 16 (by omega), e 17 (by omega)]
      exact hJ j hj
  · intro l hl
    rw [e1 l hl, t10]
    by_cases c : l = k
    · subst c
      refine ⟨g1, ?_, fun _ => ⟨?_, fun x hx => ?_⟩⟩
      · rw [f1, if_neg (by omega), if_neg (by omega), if_neg (by omega), if_neg (by omega), if_pos ⟨rfl, rfl⟩, f2, if_neg (by omega), if_neg (by omega), if_neg (by omega), if_neg (by omega), if_pos ⟨rfl, rfl⟩]
      · rw [f1, if_neg (by omega), if_neg (by omega), if_neg (by omega), if_pos ⟨rfl, rfl⟩, f2, if_neg (by omega), if_neg (by omega), if_neg (by omega), if_pos ⟨rfl, rfl⟩]
        exact q2
      · by_cases cx : x = bb + i
        · subst cx
          rw [f1, if_neg (by omega), if_neg (by omega), if_pos ⟨rfl, rfl⟩, f2, if_neg (by omega), if_neg (by omega), if_pos ⟨rfl, by omega⟩]
        · rw [f1, if_neg (by omega), if_neg (by omega), if_neg (by omega), if_neg (by omega), if_neg (by omega), if_neg (by omega), if_neg (by omega), if_neg (by omega), if_neg (by omega), f2, if_neg (by omega), if_neg (by omega), if_neg (by omega), if_neg (by omega), if_neg (by omega), if_neg (by omega), if_neg (by omega), if_neg (by omega), if_neg (by omega)]
          exact (g3 hpn).2 x hx
    · obtain ⟨y1, y2, y3⟩ := hG l hl
      have s1 : σ' (94 + 2 * l) = σ (94 + 2 * l) := c1 _ (by omega) (by omega) (by omega) (by omega)
      have s2 : σ' (94 + 2 * l + 1) = σ (94 + 2 * l + 1) := c1 _ (by omega) (by omega) (by omega) (by omega)
      have e : ∀ a, a = 11 ∨ a = 12 → τ' a l = τ a l := fun a ha => by rw [f2, if_neg (by omega), if_neg (by omega), if_neg (by omega), if_neg (by omega), if_neg (by omega), if_neg (by omega), if_neg (by omega), if_neg (by omega), if_neg (by omega)]
      rw [s1, s2, e 11 (by omega), e 12 (by omega)]
      refine ⟨y1, y2, fun hq => ⟨(y3 hq).1, fun x hx => ?_⟩⟩
      rw [f2, if_neg (by omega), if_neg (by omega), if_neg (by omega), if_neg (by omega), if_neg (by omega), if_neg (by omega), if_neg (by omega), if_neg (by omega), if_neg (by omega)]
      exact (y3 hq).2 x hx
  · intro l hl
    rw [e1 l hl]
    by_cases c : l = k
    · subst c
      exact ⟨fun q => absurd (g1.symm.trans q) hpn, (hE.1 l hl).2⟩
    · have s1 : σ' (94 + 2 * l) = σ (94 + 2 * l) := c1 _ (by omega) (by omega) (by omega) (by omega)
      have s2 : σ' (94 + 2 * l + 1) = σ (94 + 2 * l + 1) := c1 _ (by omega) (by omega) (by omega) (by omega)
      rw [s1, s2]
      exact hE.1 l hl
  · intro l l' hl hl'
    rw [e1 l hl, e1 l' hl']
    exact hE.2 l l' hl hl'
  · refine ⟨α, β, ca, cb, ?_, ?_, by omega, by omega, fun l hl => ?_, fun l l' hl hl' => ?_⟩
    · rw [c0 13 (by omega) (by omega)]; exact a1
    · rw [d0 16 (by omega) (by omega)]; exact a2
    · rw [e4 l hl, t10, t13]; exact a5 l hl
    · rw [t10]; exact a6 l l' hl hl'
  · refine ⟨n' + 1, w + 1, m', v12, v11, ?_, by omega, by omega, by omega, fun q => ?_, fun j hj => ?_⟩
    · rw [c0 3 (by omega) (by omega)]; exact x3
    · rw [c0 5 (by omega) (by omega)] at q
      exact absurd hd q
    · rw [show n' + 1 - (w + 1) + j = n' - w + j by omega]
      by_cases c : j = w
      · subst c
        rw [show n' - j + j = n' by omega]
        refine ⟨?_, ?_, ?_, ?_, ?_⟩
        · rw [f1, if_neg (by omega), if_neg (by omega), if_neg (by omega), if_neg (by omega), if_neg (by omega), if_pos ⟨rfl, rfl⟩]
          exact x1
        · rw [f2, if_neg (by omega), if_neg (by omega), if_neg (by omega), if_neg (by omega), if_neg (by omega), if_pos ⟨rfl, rfl⟩, ← q2]
          exact x1
        · rw [f1, if_neg (by omega), if_neg (by omega), if_neg (by omega), if_neg (by omega), if_neg (by omega), if_neg (by omega), if_pos ⟨rfl, rfl⟩, f2, if_neg (by omega), if_neg (by omega), if_neg (by omega), if_neg (by omega), if_neg (by omega), if_neg (by omega), if_pos ⟨rfl, rfl⟩, g1]
          exact hp
        · rw [f1, if_neg (by omega), if_neg (by omega), if_neg (by omega), if_neg (by omega), if_neg (by omega), if_neg (by omega), if_neg (by omega), if_pos ⟨rfl, rfl⟩, f2, if_neg (by omega), if_neg (by omega), if_neg (by omega), if_neg (by omega), if_neg (by omega), if_neg (by omega), if_neg (by omega), if_pos ⟨rfl, rfl⟩]
        · rw [f1, if_neg (by omega), if_neg (by omega), if_neg (by omega), if_neg (by omega), if_neg (by omega), if_neg (by omega), if_neg (by omega), if_neg (by omega), if_pos ⟨rfl, rfl⟩, f2, if_neg (by omega), if_neg (by omega), if_neg (by omega), if_neg (by omega), if_neg (by omega), if_neg (by omega), if_neg (by omega), if_neg (by omega), if_pos ⟨rfl, rfl⟩]
      · have hne : (n' - w + j) % 12 ≠ n' % 12 := by omega
        rw [c1 (70 + 2 * ((n' - w + j) % 12) + 1) (by omega) (by omega) (by omega) (by omega)]
        have e : ∀ a, a = 15 ∨ a = 16 ∨ a = 17 ∨ a = 18 → τ' a j = τ a j := fun a ha => by rw [f2, if_neg (by omega), if_neg (by omega), if_neg (by omega), if_neg (by omega), if_neg (by omega), if_neg (by omega), if_neg (by omega), if_neg (by omega), if_neg (by omega)]
        rw [e 15 (by omega), e 16 (by omega), e 17 (by omega), e 18 (by omega)]
        exact h5 j (by omega)
  · rw [c0 3 (by omega) (by omega), d0 10 (by omega) (by omega)]; exact q1
  · rw [f1, if_pos ⟨rfl, rfl⟩, f2, if_pos ⟨rfl, rfl⟩, q2]
  · rw [c0 5 (by omega) (by omega), d0 25 (by omega) (by omega)]; exact q3
  · rw [f1, if_neg (by omega), if_pos ⟨rfl, rfl⟩, f2, if_neg (by omega), if_pos ⟨rfl, rfl⟩, q4]
  · rw [t10]; exact hp
/-- the reference asks once more -/
theorem sim_again {B k : Nat} {σ τ : me_M} (hB : B ≤ 89000) (h : rl B σ τ) (hk : k < 4) (hp : ¬ τ 10 k = -1) (ht : σ (94 + 2 * k) 4 = σ 0 13) : rl (B + 1) σ (s_mt k τ) ∧ (s_mt k τ) 10 = τ 10 ∧ (s_mt k τ) 0 0 = τ 0 0 := by
  have f := fun a b => s_mt_eq k τ a b
  generalize s_mt k τ = τ' at f ⊢
  have g1 : ∀ a, a ≠ 0 → a ≠ 13 → τ' a = τ a := fun a h0 h1 => by funext b; rw [f, if_neg (by omega), if_neg (by omega)]
  have g2 : ∀ b, b ≠ 16 → τ' 0 b = τ 0 b := fun b hb => by rw [f, if_neg (by omega), if_neg (by omega)]
  have t10 : τ' 10 = τ 10 := g1 10 (by omega) (by omega)
  obtain ⟨hD, ⟨p0, p1, p2, p3, p4⟩, hL, hI, hJ, hG, hE, ⟨α, β, ca, cb, a1, a2, a3, a4, a5, a6⟩, ⟨n, w, m, x1, x2, x3, h1, h2, h3, h4, h5⟩, q1, q2, q3, q4⟩ := h
  have top : α k = ca := by
    have := (a5 k hk).1
    rw [ht, a1] at this
    exact ((nI_eq (by omega) (by have := (a5 k hk).2.1; omega)).mp this).symm
  refine ⟨⟨r_D_t (fun a _ _ => g1 a (by omega) (by omega)) hD, ⟨?_, ?_, ?_, ?_, ?_⟩, ?_, hI, ?_, ?_, hE, ?_, ⟨n, w, m, x1, x2, x3, h1, h2, by omega, h4, fun i hi => ?_⟩, ?_, ?_, ?_, ?_⟩, t10, g2 0 (by omega)⟩
  · rw [g2 24 (by omega)]; exact p0
  · rw [g2 26 (by omega)]; exact p1
  · rw [g2 27 (by omega)]; exact p2
  · rw [g2 28 (by omega)]; exact p3
  · rw [g2 23 (by omega)]; exact p4
  · intro r hr
    rw [g1 6 (by omega) (by omega), g1 7 (by omega) (by omega), g1 8 (by omega) (by omega), g1 9 (by omega) (by omega)]
    exact hL r hr
  · intro i hi
    rw [g1 15 (by omega) (by omega), g1 16 (by omega) (by omega), g1 17 (by omega) (by omega)]
    exact hJ i hi
  · intro l hl
    rw [t10, g1 11 (by omega) (by omega), g1 12 (by omega) (by omega), g1 14 (by omega) (by omega)]
    exact hG l hl
  · refine ⟨α, fun l => if l = k then cb + 1 else β l, ca, cb + 1, a1, ?_, by omega, by omega, fun l hl => ?_, fun l l' hl hl' hn hq hq' => ?_⟩
    · rw [f, if_neg (by omega), if_pos ⟨rfl, rfl⟩, a2, nI_add]
    · rw [t10]
      obtain ⟨b1, b2, b3, b4⟩ := a5 l hl
      refine ⟨b1, b2, b3, fun hq => ⟨(b4 hq).1, ?_, ?_⟩⟩
      · by_cases c : l = k
        · subst c
          rw [f, if_pos ⟨rfl, rfl⟩, a2, nI_add]
          simp
        · rw [f, if_neg (by omega), if_neg (by omega), (b4 hq).2.1]
          simp [c]
      · have := (b4 hq).2.2
        by_cases c : l = k
        · simp [c]
        · simp only [if_neg c]
          omega
    · rw [t10] at hq hq'
      obtain ⟨y1, y2⟩ := a6 l l' hl hl' hn hq hq'
      refine ⟨y1, ?_⟩
      have z1 := (a5 l hl).2.1
      have z2 := (a5 l' hl').2.1
      have z3 := ((a5 l hl).2.2.2 hq).2.2
      have z4 := ((a5 l' hl').2.2.2 hq').2.2
      by_cases c : l = k
      · subst c
        have c' : ¬ l' = l := fun q => hn q.symm
        simp only [if_true, if_neg c']
        omega
      · by_cases c' : l' = k
        · subst c'
          simp only [if_true, if_neg c]
          omega
        · simp only [if_neg c, if_neg c']
          exact y2
  · rw [g1 15 (by omega) (by omega), g1 16 (by omega) (by omega), g1 17 (by omega) (by omega), g1 18 (by omega) (by omega)]
    exact h5 i hi
  · rw [g2 10 (by omega)]; exact q1
  · rw [g2 17 (by omega)]; exact q2
  · rw [g2 25 (by omega)]; exact q3
  · rw [g2 18 (by omega)]; exact q4
