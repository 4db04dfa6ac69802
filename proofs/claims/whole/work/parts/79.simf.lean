/-! SIMULATION 6: a checkpoint; a page is brought -/
theorem rl.mono {B C : Nat} {σ τ : me_M} (h : rl B σ τ) (hBC : B ≤ C) : rl C σ τ := by
  obtain ⟨hD, hP, hL, hI, hJ, hG, hE, ⟨α, β, ca, cb, a1, a2, a3, a4, a5⟩, ⟨n, w, m, e1, e2, e3, h1, h2, h3, h4⟩, hQ⟩ := h
  exact ⟨hD, hP, hL, hI, hJ, hG, hE, ⟨α, β, ca, cb, a1, a2, by omega, by omega, a5⟩, ⟨n, w, m, e1, e2, e3, h1, h2, by omega, h4⟩, hQ⟩
theorem r_f.mono {B C : Nat} {σ τ : me_M} (h : r_f B σ τ) (hBC : B ≤ C) : r_f C σ τ := by
  obtain ⟨hD, hP, hL, ⟨q1, q2, n, m, e1, e2, h1, h2, h3⟩, ⟨ca, cb, a1, a2, a3, a4⟩, hd⟩ := h
  exact ⟨hD, hP, hL, ⟨q1, q2, n, m, e1, e2, h1, h2, by omega⟩, ⟨ca, cb, a1, a2, by omega, by omega⟩, hd⟩
theorem r_mt_all : ∀ i, i < 4 → (r_mt (-1) i ↔ 0 ≤ i ∧ i ≤ 3) := fun i hi => ⟨fun _ => by omega, fun _ => Or.inl rfl⟩
theorem r_mt_one {k : Nat} (hk : k < 4) : ∀ i, i < 4 → (r_mt (nI k) i ↔ k ≤ i ∧ i ≤ k) := by
  intro i hi
  constructor
  · rintro (h | h)
    · exact absurd h (nI_m1 (by omega))
    · have := (nI_eq (by omega) (by omega)).mp h
      omega
  · intro h
    rw [show i = k by omega]
    exact Or.inr rfl
theorem sim_cam {B : Nat} {σ τ σ' τ' : me_M} {r q : Int32} (hB : B ≤ 90000) (h : rl B σ τ) (e1 : k_cam σ = (r, σ')) (e2 : m_chk τ = (q, τ')) : (∃ z, z ≤ 4 ∧ r = nI z ∧ q = nI z ∧ rl B σ' τ' ∧ σ' 0 5 = σ 0 5) ∨ (r = -3 ∧ q = -3 ∧ r_f B σ' τ') := by
  simp only [k_cam] at e1
  simp only [m_chk] at e2
  rcases ec : k_cd 0 3 σ with ⟨r1, σ1⟩
  rcases em : m_cl (-1) τ with ⟨q1, τ1⟩
  rw [ec] at e1
  rw [em] at e2
  dsimp only at e1 e2
  rcases sim_cd hB (by omega) (by omega) r_mt_all h ec em with ⟨z, hz, rfl, rfl, hk, h27, h11, -⟩ | ⟨rfl, rfl, hf⟩
  · rw [if_neg (nI_m3 (by omega))] at e1
    rw [if_neg (by decide)] at e2
    rcases ep : k_ph σ1 with ⟨r2, σ2⟩
    rcases ew : m_mw τ1 with ⟨q2, τ2⟩
    rw [ep] at e1
    rw [ew] at e2
    dsimp only at e1 e2
    rcases sim_ph hk.1 ep ew with ⟨rfl, rfl, hp⟩ | ⟨rfl, rfl, rfl, hf⟩
    · rw [if_neg (by decide)] at e1 e2
      obtain ⟨hl, g1, g2, g3, g4⟩ := hp
      cases e1
      cases e2
      refine Or.inl ⟨z, hz, rfl, ?_, ?_, by rw [me_st_s _ _ _ (by omega), g2 5 (by omega) (by omega), hk.2.2.1 5 (by omega) (by omega) (by omega) (by omega)]⟩
      · rw [me_st_s _ _ _ (by omega), g4 27 (by omega) (by omega), h27, Int32.add_comm, Int32.add_sub_cancel]
      · have h11' : σ2 0 11 = nI 0 := (g2 11 (by omega) (by omega)).trans h11
        clear g1 g2 g3 g4 ep ew hk h27 h11 ec em h
        have f1 : ∀ a, a ≠ 0 → me_st σ2 0 3 (σ2 0 12) a = σ2 a := fun a ha => me_st_c σ2 _ _ ha
        have f2 : ∀ k, k ≠ 3 → me_st σ2 0 3 (σ2 0 12) 0 k = σ2 0 k := fun k hk => me_st_s σ2 0 _ hk
        have f3 : ∀ a, a ≠ 0 → me_st τ2 0 10 (τ2 0 17) a = τ2 a := fun a ha => me_st_c τ2 _ _ ha
        have f4 : ∀ k, k ≠ 10 → me_st τ2 0 10 (τ2 0 17) 0 k = τ2 0 k := fun k hk => me_st_s τ2 0 _ hk
        have v1 : me_st σ2 0 3 (σ2 0 12) 0 3 = σ2 0 12 := me_st_self _ _ _ _
        have v2 : me_st τ2 0 10 (τ2 0 17) 0 10 = τ2 0 17 := me_st_self _ _ _ _
        generalize me_st σ2 0 3 (σ2 0 12) = σ' at *
        generalize me_st τ2 0 10 (τ2 0 17) = τ' at *
        obtain ⟨hD, ⟨p0, p1, p2, p3, p4⟩, hL, hI, hJ, hG, hE, hA, ⟨n, w, m, e1, e2, e3, h1, h2, h3, -, -⟩, q1, q2, q3, q4⟩ := hl
        refine ⟨r_D_s (fun a _ _ => f1 a (by omega)) (r_D_t (fun a _ _ => f3 a (by omega)) hD), ⟨?_, ?_, ?_, ?_, ?_⟩, ?_, ?_, ?_, ?_, ?_, ?_, ⟨n, 0, n, ?_, ?_, ?_, by omega, by omega, h3, fun _ => rfl, fun i hi => by omega⟩, ?_, ?_, ?_, ?_⟩
        · rw [f2 4 (by omega), f4 24 (by omega)]; exact p0
        · rw [f2 6 (by omega), f4 26 (by omega)]; exact p1
        · rw [f2 7 (by omega), f4 27 (by omega)]; exact p2
        · rw [f2 8 (by omega), f4 28 (by omega)]; exact p3
        · rw [f2 14 (by omega), f4 23 (by omega)]; exact p4
        · intro r hr
          rw [f1 (70 + 2 * r) (by omega), f3 6 (by omega), f3 7 (by omega), f3 8 (by omega), f3 9 (by omega)]
          exact hL r hr
        · intro a h7 h9
          rw [f1 a (by omega)]
          exact hI a h7 h9
        · intro i hi
          rw [f3 15 (by omega), f3 16 (by omega), f3 17 (by omega)]
          exact hJ i hi
        · intro k hk
          rw [f1 (94 + 2 * k) (by omega), f1 (94 + 2 * k + 1) (by omega), f3 10 (by omega), f3 11 (by omega), f3 12 (by omega), f3 14 (by omega)]
          exact hG k hk
        · unfold r_E at hE ⊢
          have e94 : ∀ k, σ' (94 + 2 * k) = σ2 (94 + 2 * k) := fun k => f1 _ (by omega)
          have e95 : ∀ k, σ' (94 + 2 * k + 1) = σ2 (94 + 2 * k + 1) := fun k => f1 _ (by omega)
          simp only [e94, e95]
          exact hE
        · unfold r_A at hA ⊢
          have e94 : ∀ k, σ' (94 + 2 * k) = σ2 (94 + 2 * k) := fun k => f1 _ (by omega)
          simp only [e94, f3 10 (by omega), f3 13 (by omega), f2 13 (by omega), f4 16 (by omega)]
          exact hA
        · rw [f2 12 (by omega)]; exact e1
        · rw [f2 11 (by omega)]; exact h11'
        · rw [v1]; exact e1
        · rw [v1, v2]; exact q2
        · rw [f2 12 (by omega), f4 17 (by omega)]; exact q2
        · rw [f2 5 (by omega), f4 25 (by omega)]; exact q3
        · rw [f2 11 (by omega), f4 18 (by omega)]; exact q4
    · rw [if_pos nI_0] at e1 e2
      cases e1
      cases e2
      exact Or.inr ⟨rfl, rfl, hf⟩
  · rw [if_pos rfl] at e1
    rw [if_pos nI_0] at e2
    cases e1
    cases e2
    exact Or.inr ⟨rfl, rfl, hf⟩
/-- frame k holds page g now, as the last that was asked for -/
theorem sim_top {B g k : Nat} {σ τ σ' τ' : me_M} (hB : B ≤ 90000) (h : rl B σ τ) (hg : g < 12) (hk : k < 4) (ho : ∀ l, l < 4 → l ≠ k → ¬ τ 10 l = nI g)
    (f1 : ∀ a, a ≠ 0 → a ≠ 94 + 2 * k → a ≠ 94 + 2 * k + 1 → σ' a = σ a) (f2 : ∀ b, b ≠ 13 → σ' 0 b = σ 0 b) (f3 : ∀ a, a < 10 ∨ 14 < a → a ≠ 0 → τ' a = τ a) (f4 : ∀ b, b ≠ 16 → τ' 0 b = τ 0 b) (f5 : ∀ l, l < 4 → l ≠ k → τ' 10 l = τ 10 l ∧ τ' 11 l = τ 11 l ∧ τ' 12 l = τ 12 l ∧ τ' 13 l = τ 13 l ∧ ∀ w, w < 16 → τ' 14 (16 * l + w) = τ 14 (16 * l + w))
    (v1 : σ' 0 13 = σ 0 13 + nI 1) (v2 : σ' (94 + 2 * k) 4 = σ 0 13 + nI 1) (v3 : τ' 0 16 = τ 0 16 + nI 1) (v4 : τ' 13 k = τ 0 16 + nI 1) (v5 : σ' (94 + 2 * k) 1 = nI g) (v6 : τ' 10 k = nI g) (v7 : σ' (94 + 2 * k) 3 = τ' 12 k) (v8 : σ' (94 + 2 * k) 2 = τ' 11 k) (v9 : ∀ w, w < 16 → σ' (94 + 2 * k + 1) w = τ' 14 (16 * k + w)) : rl (B + 1) σ' τ' := by
  have hng : ¬ (nI g = -1) := nI_m1 (by omega)
  have g1 : ∀ l, l < 4 → l ≠ k → σ' (94 + 2 * l) = σ (94 + 2 * l) := fun l hl hn => f1 _ (by omega) (by omega) (by omega)
  have g2 : ∀ l, l < 4 → l ≠ k → σ' (94 + 2 * l + 1) = σ (94 + 2 * l + 1) := fun l hl hn => f1 _ (by omega) (by omega) (by omega)
  obtain ⟨hD, ⟨p0, p1, p2, p3, p4⟩, hL, hI, hJ, hG, hE, ⟨α, β, ca, cb, a1, a2, a3, a4, a5, a6⟩, hW, q1, q2, q3, q4⟩ := h
  refine ⟨r_D_s (fun a _ _ => f1 a (by omega) (by omega) (by omega)) (r_D_t (fun a _ _ => f3 a (by omega) (by omega)) hD), ⟨?_, ?_, ?_, ?_, ?_⟩, ?_, ?_, ?_, ?_, ⟨?_, ?_⟩, ?_, ?_, ?_, ?_, ?_, ?_⟩
  · rw [f2 4 (by omega), f4 24 (by omega)]; exact p0
  · rw [f2 6 (by omega), f4 26 (by omega)]; exact p1
  · rw [f2 7 (by omega), f4 27 (by omega)]; exact p2
  · rw [f2 8 (by omega), f4 28 (by omega)]; exact p3
  · rw [f2 14 (by omega), f4 23 (by omega)]; exact p4
  · intro r hr
    rw [f1 (70 + 2 * r) (by omega) (by omega) (by omega), f3 6 (by omega) (by omega), f3 7 (by omega) (by omega), f3 8 (by omega) (by omega), f3 9 (by omega) (by omega)]
    exact hL r hr
  · intro a h7 h9
    rw [f1 a (by omega) (by omega) (by omega)]
    exact hI a h7 h9
  · intro i hi
    rw [f3 15 (by omega) (by omega), f3 16 (by omega) (by omega), f3 17 (by omega) (by omega)]
    exact hJ i hi
  · intro l hl
    by_cases c : l = k
    · subst c
      exact ⟨v5.trans v6.symm, v7, fun _ => ⟨v8, v9⟩⟩
    · obtain ⟨t1, t2, t3, t4, t5⟩ := f5 l hl c
      rw [g1 l hl c, g2 l hl c, t1, t2, t3]
      obtain ⟨d1, d2, d3⟩ := hG l hl
      exact ⟨d1, d2, fun hp => ⟨(d3 hp).1, fun w hw => by rw [t5 w hw]; exact (d3 hp).2 w hw⟩⟩
  · intro l hl
    by_cases c : l = k
    · subst c
      rw [v5]
      exact ⟨fun q => absurd q hng, fun _ => vp_in_nI hg (by omega)⟩
    · rw [g1 l hl c, g2 l hl c]
      exact hE.1 l hl
  · intro l l' hl hl' hn hp
    by_cases c : l = k
    · subst c
      rw [v5, g1 l' hl' (fun q => hn q.symm), (hG l' hl').1]
      exact fun q => ho l' hl' (fun q => hn q.symm) q.symm
    · by_cases c' : l' = k
      · subst c'
        rw [g1 l hl c, v5, (hG l hl).1]
        exact ho l hl c
      · rw [g1 l hl c] at hp ⊢
        rw [g1 l' hl' c']
        exact hE.2 l l' hl hl' hn hp
  · refine ⟨fun l => if l = k then ca + 1 else α l, fun l => if l = k then cb + 1 else β l, ca + 1, cb + 1, ?_, ?_, by omega, by omega, fun l hl => ?_, fun l l' hl hl' hn hp hp' => ?_⟩
    · rw [v1, a1, nI_add]
    · rw [v3, a2, nI_add]
    · by_cases c : l = k
      · subst c
        simp only [if_true]
        rw [v2, a1, nI_add, v6, v4, a2, nI_add]
        exact ⟨rfl, by omega, fun q => absurd q hng, fun _ => ⟨by omega, rfl, by omega⟩⟩
      · simp only [if_neg c]
        obtain ⟨t1, t2, t3, t4, t5⟩ := f5 l hl c
        rw [g1 l hl c, t1, t4]
        obtain ⟨b1, b2, b3, b4⟩ := a5 l hl
        exact ⟨b1, by omega, b3, fun hp => ⟨(b4 hp).1, (b4 hp).2.1, by have := (b4 hp).2.2; omega⟩⟩
    · by_cases c : l = k
      · subst c
        have c' : l' ≠ l := fun q => hn q.symm
        simp only [if_true, if_neg c']
        rw [(f5 l' hl' c').1] at hp'
        have b2 := (a5 l' hl').2.1
        have b4 := ((a5 l' hl').2.2.2 hp').2.2
        omega
      · by_cases c' : l' = k
        · subst c'
          simp only [if_true, if_neg c]
          rw [(f5 l hl c).1] at hp
          have b2 := (a5 l hl).2.1
          have b4 := ((a5 l hl).2.2.2 hp).2.2
          omega
        · simp only [if_neg c, if_neg c']
          rw [(f5 l hl c).1] at hp
          rw [(f5 l' hl' c').1] at hp'
          exact a6 l l' hl hl' hn hp hp'
  · obtain ⟨n, w, m, e1, e2, e3, h1, h2, h3, h4, h5⟩ := hW
    refine ⟨n, w, m, ?_, ?_, ?_, h1, h2, by omega, ?_, fun i hi => ?_⟩
    · rw [f2 12 (by omega)]; exact e1
    · rw [f2 11 (by omega)]; exact e2
    · rw [f2 3 (by omega)]; exact e3
    · rw [f2 5 (by omega)]; exact h4
    · rw [f1 _ (by omega) (by omega) (by omega), f3 15 (by omega) (by omega), f3 16 (by omega) (by omega), f3 17 (by omega) (by omega), f3 18 (by omega) (by omega)]
      exact h5 i hi
  · rw [f2 3 (by omega), f4 10 (by omega)]; exact q1
  · rw [f2 12 (by omega), f4 17 (by omega)]; exact q2
  · rw [f2 5 (by omega), f4 25 (by omega)]; exact q3
  · rw [f2 11 (by omega), f4 18 (by omega)]; exact q4
/-! which frame -/
def r_fm (f : Nat → Nat) : Nat := let a := if f 0 ≤ f 1 then 0 else 1; let b := if f a ≤ f 2 then a else 2; if f b ≤ f 3 then b else 3
theorem r_fm_lt (f : Nat → Nat) : r_fm f < 4 := by
  unfold r_fm
  dsimp only
  generalize ha : (if f 0 ≤ f 1 then 0 else 1) = a
  have h1 : a < 2 := by rw [← ha]; split <;> omega
  generalize hb : (if f a ≤ f 2 then a else 2) = b
  have h2 : b < 3 := by rw [← hb]; split <;> omega
  split <;> omega
theorem r_fm_free {f : Nat → Nat} {k : Nat} (hk : k < 4) (h0 : f k = 0) (h1 : ∀ j, j < k → 0 < f j) : r_fm f = k := by
  have : k = 0 ∨ k = 1 ∨ k = 2 ∨ k = 3 := by omega
  unfold r_fm
  dsimp only
  rcases this with rfl | rfl | rfl | rfl
  · rw [if_pos (show f 0 ≤ f 1 by omega), if_pos (show f 0 ≤ f 2 by omega), if_pos (by omega)]
  · have := h1 0 (by omega)
    rw [if_neg (show ¬ f 0 ≤ f 1 by omega), if_pos (show f 1 ≤ f 2 by omega), if_pos (by omega)]
  · have k0 := h1 0 (by omega)
    have k1 := h1 1 (by omega)
    generalize ha : (if f 0 ≤ f 1 then 0 else 1) = a
    have h2 : 0 < f a := by rw [← ha]; split <;> omega
    rw [if_neg (show ¬ f a ≤ f 2 by omega), if_pos (by omega)]
  · have k0 := h1 0 (by omega)
    have k1 := h1 1 (by omega)
    have k2 := h1 2 (by omega)
    generalize ha : (if f 0 ≤ f 1 then 0 else 1) = a
    have h2 : 0 < f a := by rw [← ha]; split <;> omega
    generalize hb : (if f a ≤ f 2 then a else 2) = b
    have h3 : 0 < f b := by rw [← hb]; split <;> omega
    rw [if_neg (by omega)]
theorem r_fm_same {f g : Nat → Nat} (h : ∀ k l, k < 4 → l < 4 → k ≠ l → f k ≠ f l ∧ (f k < f l ↔ g k < g l)) : r_fm f = r_fm g := by
  have e : ∀ k l, k < 4 → l < 4 → k ≠ l → (f k ≤ f l ↔ g k ≤ g l) := by
    intro k l hk hl hn
    have h1 := h k l hk hl hn
    have h2 := h l k hl hk (Ne.symm hn)
    omega
  unfold r_fm
  have e01 := e 0 1 (by omega) (by omega) (by omega)
  have e02 := e 0 2 (by omega) (by omega) (by omega)
  have e12 := e 1 2 (by omega) (by omega) (by omega)
  have e03 := e 0 3 (by omega) (by omega) (by omega)
  have e13 := e 1 3 (by omega) (by omega) (by omega)
  have e23 := e 2 3 (by omega) (by omega) (by omega)
  simp only [e01]
  by_cases c1 : g 0 ≤ g 1
  · simp only [if_pos c1, e02]
    by_cases c2 : g 0 ≤ g 2
    · simp only [if_pos c2, e03]
    · simp only [if_neg c2, e23]
  · simp only [if_neg c1, e12]
    by_cases c2 : g 1 ≤ g 2
    · simp only [if_pos c2, e13]
    · simp only [if_neg c2, e23]
theorem ff_step {n v i : Nat} {s : me_M} {f : Nat → Nat} (hi : i < 4) (hv : v < 4) (h : ∀ k, k < 4 → s (94 + 2 * k) 4 = nI (f k) ∧ f k < 2 ^ 31) : k_ff_4 (n + 1) v i s = k_ff_4 n (if f v ≤ f i then v else i) (i + 1) s := by
  have e : ¬ (nI 4 ≤ nI i) := fun q => by have := (nI_leI (by omega) (by omega)).mp q; omega
  have e2 : (nI (f v) ≤ nI (f i)) ↔ f v ≤ f i := nI_leI (h v hv).2 (h i hi).2
  simp only [k_ff_4]
  rw [if_neg e, (h v hv).1, (h i hi).1]
  simp only [e2]
  by_cases c : f v ≤ f i
  · rw [if_pos c, if_pos c]
  · rw [if_neg c, if_neg c]
theorem ff_end {n v : Nat} {s : me_M} : k_ff_4 (n + 1) v 4 s = nI v := by
  simp only [k_ff_4]
  rw [if_pos (by decide)]
theorem s_ff {s : me_M} {f : Nat → Nat} (h : ∀ k, k < 4 → s (94 + 2 * k) 4 = nI (f k) ∧ f k < 2 ^ 31) : k_ff s = nI (r_fm f) := by
  unfold k_ff
  rw [ff_step (by omega) (by omega) h]
  rw [ff_step (by omega) (by split <;> omega) h]
  rw [ff_step (by omega) (by repeat' split
                             all_goals omega) h]
  exact ff_end
theorem b83_step {n g v i : Nat} {s : me_M} {f : Nat → Nat} (hi : i < 4) (hv : v < 4) (h : ∀ k, k < 4 → s 13 k = nI (f k) ∧ f k < 2 ^ 31) : m_br_83 (n + 1) g v i s = m_br_83 n g (if f v ≤ f i then v else i) (i + 1) s := by
  have e : ¬ (nI 4 ≤ nI i) := fun q => by have := (nI_leI (by omega) (by omega)).mp q; omega
  have e2 : (nI (f v) ≤ nI (f i)) ↔ f v ≤ f i := nI_leI (h v hv).2 (h i hi).2
  simp only [m_br_83]
  rw [if_neg e, (h v hv).1, (h i hi).1]
  simp only [e2]
  by_cases c : f v ≤ f i
  · rw [if_pos c, if_pos c]
  · rw [if_neg c, if_neg c]
theorem s_b83 {g : Nat} {s : me_M} {f : Nat → Nat} (h : ∀ k, k < 4 → s 13 k = nI (f k) ∧ f k < 2 ^ 31) : m_br_83 4 g 0 1 s = r_fm f := by
  rw [b83_step (by omega) (by omega) h]
  rw [b83_step (by omega) (by split <;> omega) h]
  rw [b83_step (by omega) (by repeat' split
                              all_goals omega) h]
  simp only [m_br_83]
  rw [if_pos (by decide)]
  rfl
theorem b4_none {g : Nat} {s : me_M} : ∀ (n : Nat) (v : Int32) (i : Nat), i ≤ 4 → 5 ≤ n + i → (∀ j, i ≤ j → j < 4 → ¬ s 10 j = nI g) → m_br_4 n g v i s = v := by
  intro n
  induction n with
  | zero => intro v i h1 h2; omega
  | succ n ih =>
    intro v i h1 h2 h
    have e : nI 4 ≤ nI i ↔ 4 ≤ i := nI_leI (by omega) (by omega)
    simp only [m_br_4, e]
    by_cases c : 4 ≤ i
    · rw [if_pos c]
    · rw [if_neg c, if_neg (h i (by omega) (by omega))]
      exact ih v (i + 1) (by omega) (by omega) (fun j hj h4 => h j (by omega) h4)
theorem b4_one {g k : Nat} {s : me_M} (hk : k < 4) (hs : s 10 k = nI g) (ho : ∀ j, j < 4 → j ≠ k → ¬ s 10 j = nI g) : ∀ (n : Nat) (v : Int32) (i : Nat), i ≤ k → 5 ≤ n + i → m_br_4 n g v i s = nI k := by
  intro n
  induction n with
  | zero => intro v i h1 h2; omega
  | succ n ih =>
    intro v i h1 h2
    have e : nI 4 ≤ nI i ↔ 4 ≤ i := nI_leI (by omega) (by omega)
    simp only [m_br_4, e]
    rw [if_neg (by omega)]
    by_cases c : i = k
    · subst c
      rw [if_pos hs]
      exact b4_none n _ (i + 1) (by omega) (by omega) (fun j hj h4 => ho j h4 (by omega))
    · rw [if_neg (ho i (by omega) c)]
      exact ih v (i + 1) (by omega) (by omega)
theorem b41_step {n g i : Nat} {v : Int32} {s : me_M} (hi : i < 4) : m_br_41 (n + 1) g v (nI i) s = m_br_41 n g (if s 10 i = -1 then nI i else v) (nI i + (-1)) s := by
  simp only [m_br_41]
  rw [if_neg (nI_pos (by omega)), nI_clamp (by omega)]
  by_cases c : s 10 i = -1
  · rw [if_pos c, if_pos c]
  · rw [if_neg c, if_neg c]
theorem s_b41 {g : Nat} {s : me_M} : m_br_41 5 g (-1) (nI 3) s = if s 10 0 = -1 then nI 0 else if s 10 1 = -1 then nI 1 else if s 10 2 = -1 then nI 2 else if s 10 3 = -1 then nI 3 else -1 := by
  rw [b41_step (by omega), pk_m1, b41_step (by omega), pk_m1, b41_step (by omega), pk_m1, b41_step (by omega)]
  have e : (nI 0 + (-1) : Int32) = -1 := by decide
  rw [e]
  simp only [m_br_41]
  rw [if_pos (by decide)]
/-- the free frame that is taken, or none is free -/
theorem s_free {g : Nat} {s : me_M} : (∃ k, k < 4 ∧ m_br_41 5 g (-1) (nI 3) s = nI k ∧ s 10 k = -1 ∧ ∀ j, j < k → ¬ s 10 j = -1) ∨ (m_br_41 5 g (-1) (nI 3) s = -1 ∧ ∀ j, j < 4 → ¬ s 10 j = -1) := by
  rw [s_b41]
  by_cases c0 : s 10 0 = -1
  · exact Or.inl ⟨0, by omega, by rw [if_pos c0], c0, fun j hj => by omega⟩
  · by_cases c1 : s 10 1 = -1
    · exact Or.inl ⟨1, by omega, by rw [if_neg c0, if_pos c1], c1, fun j hj => by rw [show j = 0 by omega]; exact c0⟩
    · by_cases c2 : s 10 2 = -1
      · refine Or.inl ⟨2, by omega, by rw [if_neg c0, if_neg c1, if_pos c2], c2, fun j hj => ?_⟩
        have : j = 0 ∨ j = 1 := by omega
        rcases this with rfl | rfl
        · exact c0
        · exact c1
      · by_cases c3 : s 10 3 = -1
        · refine Or.inl ⟨3, by omega, by rw [if_neg c0, if_neg c1, if_neg c2, if_pos c3], c3, fun j hj => ?_⟩
          have : j = 0 ∨ j = 1 ∨ j = 2 := by omega
          rcases this with rfl | rfl | rfl
          · exact c0
          · exact c1
          · exact c2
        · refine Or.inr ⟨by rw [if_neg c0, if_neg c1, if_neg c2, if_neg c3], fun j hj => ?_⟩
          have : j = 0 ∨ j = 1 ∨ j = 2 ∨ j = 3 := by omega
          rcases this with rfl | rfl | rfl | rfl
          · exact c0
          · exact c1
          · exact c2
          · exact c3
