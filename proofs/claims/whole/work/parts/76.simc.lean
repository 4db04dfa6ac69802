/-! SIMULATION 3: a page is written, sector by sector -/
def r_ok (B : Nat) (σ τ σ' τ' : me_M) : Prop := rl B σ' τ' ∧ (∀ a, 70 ≤ a → σ' a = σ a) ∧ (∀ k, k ≠ 4 → k ≠ 6 → σ' 0 k = σ 0 k) ∧ (∀ a, 6 ≤ a → τ' a = τ a) ∧ (∀ k, k ≠ 24 → k ≠ 26 → τ' 0 k = τ 0 k)
theorem r_ok.rf {B : Nat} {σ τ : me_M} (h : rl B σ τ) : r_ok B σ τ σ τ := ⟨h, fun _ _ => rfl, fun _ _ _ => rfl, fun _ _ => rfl, fun _ _ _ => rfl⟩
theorem r_ok.tr {B : Nat} {σ τ σ1 τ1 σ2 τ2 : me_M} (h1 : r_ok B σ τ σ1 τ1) (h2 : r_ok B σ1 τ1 σ2 τ2) : r_ok B σ τ σ2 τ2 :=
  ⟨h2.1, fun a h => (h2.2.1 a h).trans (h1.2.1 a h), fun k h h' => (h2.2.2.1 k h h').trans (h1.2.2.1 k h h'), fun a h => (h2.2.2.2.1 a h).trans (h1.2.2.2.1 a h), fun k h h' => (h2.2.2.2.2 k h h').trans (h1.2.2.2.2 k h h')⟩
theorem r_ok.ph {B : Nat} {σ τ σ' τ' : me_M} (h : rl B σ' τ' ∧ (∀ a, a ≠ 0 → σ' a = σ a) ∧ (∀ k, k ≠ 4 → k ≠ 6 → σ' 0 k = σ 0 k) ∧ (∀ a, a ≠ 0 → τ' a = τ a) ∧ (∀ k, k ≠ 24 → k ≠ 26 → τ' 0 k = τ 0 k)) : r_ok B σ τ σ' τ' :=
  ⟨h.1, fun a ha => h.2.1 a (by omega), h.2.2.1, fun a ha => h.2.2.2.1 a (by omega), h.2.2.2.2⟩
/-- only the disk's pages change -/
theorem r_ok.disk {B : Nat} {σ τ σ' τ' : me_M} (h : rl B σ τ) (hD : r_D σ' τ') (h1 : ∀ a, a = 0 ∨ 70 ≤ a → σ' a = σ a) (h2 : ∀ a, a = 0 ∨ 6 ≤ a → τ' a = τ a) : r_ok B σ τ σ' τ' := by
  have e0 := h1 0 (Or.inl rfl)
  have t0 := h2 0 (Or.inl rfl)
  refine ⟨⟨hD, ?_, r_X_of (fun a ha => h1 a (Or.inr ha)) (fun k _ => by rw [e0]) (fun a ha => h2 a (Or.inr ha)) (fun k _ => by rw [t0]) h.2.2⟩, fun a ha => h1 a (Or.inr ha), fun k _ _ => by rw [e0], fun a ha => h2 a (Or.inr ha), fun k _ _ => by rw [t0]⟩
  unfold r_P
  rw [e0, t0]
  exact h.2.1
/-- a sector beside -/
theorem sim_sb {B : Nat} {σ τ : me_M} {z k i : Nat} {x y : Int32} (h : rl B σ τ) (hz : z < 4) (hk : k < 4) (hi : i < 4) (hx : ¬ τ 10 k = -1) (hy : τ 11 k = y) : r_ok B σ τ (k_put (12 + z) i x y (94 + 2 * k + 1) σ) (m_wb_60 5 z k i (4 * i) (me_st (me_st τ 3 (4 * z + i) (τ 11 k)) 4 (4 * z + i) x)) := by
  have hg := ((h.2.2.2.2.2.1 k hk).2.2 hx).2
  have f1 := fun a b => s_put (12 + z) i x y (94 + 2 * k + 1) σ (by omega) hi a b
  have f2 := fun a b => s_wb60 5 z k i (4 * i) (me_st (me_st τ 3 (4 * z + i) (τ 11 k)) 4 (4 * z + i) x) hi (by omega) (by omega) (by omega) a b
  generalize k_put (12 + z) i x y (94 + 2 * k + 1) σ = σ' at f1 ⊢
  generalize m_wb_60 5 z k i (4 * i) (me_st (me_st τ 3 (4 * z + i) (τ 11 k)) 4 (4 * z + i) x) = τ' at f2 ⊢
  simp only [me_st_eq] at f2
  obtain ⟨hD1, hD2⟩ := h.1
  refine r_ok.disk h ⟨fun p hp => ⟨fun s hs => ?_, fun w hw => ?_⟩, fun p hp => ⟨fun s hs => ?_, fun w hw => ?_⟩⟩ (fun a ha => ?_) (fun a ha => ?_)
  · obtain ⟨d1, d2⟩ := (hD1 p hp).1 s hs
    rw [f1, f1, f2, if_neg (by omega), if_neg (by omega), if_neg (by omega), if_neg (by omega), if_neg (by omega), if_neg (by omega), if_neg (by omega), if_neg (by omega), if_neg (by omega)]
    exact ⟨d1, d2⟩
  · have d := (hD1 p hp).2 w hw
    rw [f1, f2, if_neg (by omega), if_neg (by omega), if_neg (by omega), if_neg (by omega), if_neg (by omega), if_neg (by omega)]
    exact d
  · obtain ⟨d1, d2⟩ := (hD2 p hp).1 s hs
    rw [f1, f1, f2, f2]
    by_cases c : p = z ∧ s = i
    · obtain ⟨rfl, rfl⟩ := c
      constructor
      · rw [if_neg (by omega), if_pos (by omega), if_neg (by omega), if_neg (by omega), if_pos (by omega), hy]
      · rw [if_neg (by omega), if_neg (by omega), if_pos (by omega), if_neg (by omega), if_pos (by omega)]
    · constructor
      · rw [if_neg (by omega), if_neg (by omega), if_neg (by omega), if_neg (by omega), if_neg (by omega), if_neg (by omega)]
        exact d1
      · rw [if_neg (by omega), if_neg (by omega), if_neg (by omega), if_neg (by omega), if_neg (by omega), if_neg (by omega)]
        exact d2
  · have d := (hD2 p hp).2 w hw
    rw [f1, f2]
    by_cases c : p = z ∧ 4 * i ≤ w ∧ w < 4 * i + 4
    · obtain ⟨rfl, c1, c2⟩ := c
      rw [if_pos (by omega), if_pos (by omega), if_neg (by omega), if_neg (by omega), hg w hw]
      congr 1
      omega
    · rw [if_neg (by omega), if_neg (by omega), if_neg (by omega), if_neg (by omega), if_neg (by omega), if_neg (by omega)]
      exact d
  · funext b
    rw [f1, if_neg (by omega), if_neg (by omega), if_neg (by omega)]
  · funext b
    rw [f2, if_neg (by omega), if_neg (by omega), if_neg (by omega)]
/-- a sector at home -/
theorem sim_sh {B : Nat} {σ τ : me_M} {j d q i : Nat} {y o : Int32} (h : rl B σ τ) (hj : j < 12) (hi : i < 4) (hq : 50 ≤ q) (hq2 : q ≠ 6 + 4 * j + 1) (hs : ∀ w, w < 16 → σ q w = if o = 0 then τ 5 (16 * d + w) else τ 14 (16 * d + w)) : r_ok B σ τ (k_put j i (nI j) y q σ) (m_wh_36 5 j y d o i (4 * i) (me_st τ 1 (4 * j + i) y)) := by
  have f1 := fun a b => s_put j i (nI j) y q σ hq2 hi a b
  have f2 := fun a b => s_wh36 5 j y d o i (4 * i) (me_st τ 1 (4 * j + i) y) hi (by omega) (by omega) (by omega) a b
  generalize k_put j i (nI j) y q σ = σ' at f1 ⊢
  generalize m_wh_36 5 j y d o i (4 * i) (me_st τ 1 (4 * j + i) y) = τ' at f2 ⊢
  simp only [me_st_eq] at f2
  obtain ⟨hD1, hD2⟩ := h.1
  refine r_ok.disk h ⟨fun p hp => ⟨fun s hs => ?_, fun w hw => ?_⟩, fun p hp => ⟨fun s hs => ?_, fun w hw => ?_⟩⟩ (fun a ha => ?_) (fun a ha => ?_)
  · obtain ⟨d1, d2⟩ := (hD1 p hp).1 s hs
    rw [f1, f1, f2]
    by_cases c : p = j ∧ s = i
    · obtain ⟨rfl, rfl⟩ := c
      constructor
      · rw [if_neg (by omega), if_pos (by omega), if_neg (by omega), if_pos (by omega)]
      · rw [if_neg (by omega), if_neg (by omega), if_pos (by omega)]
    · constructor
      · rw [if_neg (by omega), if_neg (by omega), if_neg (by omega), if_neg (by omega), if_neg (by omega)]
        exact d1
      · rw [if_neg (by omega), if_neg (by omega), if_neg (by omega)]
        exact d2
  · have e := (hD1 p hp).2 w hw
    rw [f1, f2]
    by_cases c : p = j ∧ 4 * i ≤ w ∧ w < 4 * i + 4
    · obtain ⟨rfl, c1, c2⟩ := c
      rw [if_pos (by omega), if_pos (by omega), hs w hw, show 16 * p + w - 16 * p = w by omega]
      by_cases ho : o = 0 <;> simp [ho]
    · rw [if_neg (by omega), if_neg (by omega), if_neg (by omega), if_neg (by omega), if_neg (by omega)]
      exact e
  · obtain ⟨d1, d2⟩ := (hD2 p hp).1 s hs
    rw [f1, f1, f2, f2]
    constructor
    · rw [if_neg (by omega), if_neg (by omega), if_neg (by omega), if_neg (by omega), if_neg (by omega)]
      exact d1
    · rw [if_neg (by omega), if_neg (by omega), if_neg (by omega), if_neg (by omega), if_neg (by omega)]
      exact d2
  · have e := (hD2 p hp).2 w hw
    rw [f1, f2, if_neg (by omega), if_neg (by omega), if_neg (by omega), if_neg (by omega), if_neg (by omega)]
    exact e
  · funext b
    rw [f1, if_neg (by omega), if_neg (by omega), if_neg (by omega)]
  · funext b
    rw [f2, if_neg (by omega), if_neg (by omega)]
theorem sim_wb10 {B : Nat} : ∀ (n z k i : Nat) (x y : Int32) (σ τ σ' τ' : me_M) (r q : Int32), rl B σ τ → z < 4 → k < 4 → i ≤ 4 → 5 ≤ n + i → ¬ τ 10 k = -1 → τ 11 k = y → k_wp_3 n (12 + z) x y (94 + 2 * k + 1) i σ = (r, σ') → m_wb_10 n z k x i τ = (q, τ') → (r = nI 1 ∧ q = nI 1 ∧ r_ok B σ τ σ' τ') ∨ (r = nI 0 ∧ q = nI 0 ∧ r_f B σ' τ') := by
  intro n
  induction n with
  | zero => intro z k i x y σ τ σ' τ' r q h hz hk h1 h2; omega
  | succ n ih =>
    intro z k i x y σ τ σ' τ' r q h hz hk h1 h2 hx hy e1 e2
    have e : (nI 4 ≤ nI i) ↔ (4 ≤ i) := nI_leI (by omega) (by omega)
    simp only [k_wp_3, e] at e1
    simp only [m_wb_10, e] at e2
    by_cases c : 4 ≤ i
    · rw [if_pos c] at e1 e2
      cases e1
      cases e2
      exact Or.inl ⟨rfl, rfl, r_ok.rf h⟩
    · rw [if_neg c] at e1 e2
      rcases ep : k_ph σ with ⟨r1, σ1⟩
      rcases em : m_mw τ with ⟨q1, τ1⟩
      rw [ep] at e1
      rw [em] at e2
      dsimp only at e1 e2
      rcases sim_ph h ep em with ⟨rfl, rfl, hk1⟩ | ⟨rfl, rfl, rfl, hf⟩
      · have hk1 := r_ok.ph hk1
        rw [if_neg (by decide)] at e1 e2
        have s1 := sim_sb (i := i) (y := y) (x := x) hk1.1 hz hk (by omega) (by rw [hk1.2.2.2.1 10 (by omega)]; exact hx) (by rw [hk1.2.2.2.1 11 (by omega)]; exact hy)
        have s2 := hk1.tr s1
        rcases ih z k (i + 1) x y _ _ σ' τ' r q s1.1 hz hk (by omega) (by omega) (by rw [s2.2.2.2.1 10 (by omega)]; exact hx) (by rw [s2.2.2.2.1 11 (by omega)]; exact hy) e1 e2 with ⟨a1, a2, a3⟩ | hf
        · exact Or.inl ⟨a1, a2, s2.tr a3⟩
        · exact Or.inr hf
      · rw [if_pos nI_0] at e1 e2
        cases e1
        cases e2
        exact Or.inr ⟨rfl, rfl, hf⟩
theorem sim_wb {B z k : Nat} {σ τ σ' τ' : me_M} {r q : Int32} (h : rl B σ τ) (hz : z < 4) (hk : k < 4) (hx : ¬ τ 10 k = -1) (e1 : k_wp (12 + z) (σ (94 + 2 * k) 1) (σ (94 + 2 * k) 2) (94 + 2 * k + 1) σ = (r, σ')) (e2 : m_wb z k τ = (q, τ')) : (r = nI 1 ∧ q = nI 1 ∧ r_ok B σ τ σ' τ') ∨ (r = nI 0 ∧ q = nI 0 ∧ r_f B σ' τ') := by
  obtain ⟨g1, g2, g3⟩ := h.2.2.2.2.2.1 k hk
  rw [g1] at e1
  exact sim_wb10 5 z k 0 (τ 10 k) _ σ τ σ' τ' r q h hz hk (by omega) (by omega) hx (g3 hx).1.symm e1 e2
/-- what is the source of a home that is written -/
def r_src (σ τ : me_M) (q d : Nat) (o : Int32) : Prop := ∀ w, w < 16 → σ q w = if o = 0 then τ 5 (16 * d + w) else τ 14 (16 * d + w)
theorem sim_wh3 {B : Nat} : ∀ (n j d q i : Nat) (y o : Int32) (σ τ σ' τ' : me_M) (r u : Int32), rl B σ τ → j < 12 → i ≤ 4 → 5 ≤ n + i → 50 ≤ q → q ≠ 6 + 4 * j + 1 → (∀ σ1 τ1, r_ok B σ τ σ1 τ1 → r_src σ1 τ1 q d o) → k_wp_3 n j (nI j) y q i σ = (r, σ') → m_wh_3 n j y d o i τ = (u, τ') → (r = nI 1 ∧ u = nI 1 ∧ r_ok B σ τ σ' τ') ∨ (r = nI 0 ∧ u = nI 0 ∧ r_f B σ' τ') := by
  intro n
  induction n with
  | zero => intro j d q i y o σ τ σ' τ' r u h hj h1 h2; omega
  | succ n ih =>
    intro j d q i y o σ τ σ' τ' r u h hj h1 h2 hq hq2 hs e1 e2
    have e : (nI 4 ≤ nI i) ↔ (4 ≤ i) := nI_leI (by omega) (by omega)
    simp only [k_wp_3, e] at e1
    simp only [m_wh_3, e] at e2
    by_cases c : 4 ≤ i
    · rw [if_pos c] at e1 e2
      cases e1
      cases e2
      exact Or.inl ⟨rfl, rfl, r_ok.rf h⟩
    · rw [if_neg c] at e1 e2
      rcases ep : k_ph σ with ⟨r1, σ1⟩
      rcases em : m_mw τ with ⟨q1, τ1⟩
      rw [ep] at e1
      rw [em] at e2
      dsimp only at e1 e2
      rcases sim_ph h ep em with ⟨rfl, rfl, hk1⟩ | ⟨rfl, rfl, rfl, hf⟩
      · have hk1 := r_ok.ph hk1
        rw [if_neg (by decide)] at e1 e2
        have s1 := sim_sh (y := y) (i := i) hk1.1 hj (by omega) hq hq2 (hs _ _ hk1)
        have s2 := hk1.tr s1
        rcases ih j d q (i + 1) y o _ _ σ' τ' r u s1.1 hj (by omega) (by omega) hq hq2 (fun σ9 τ9 h9 => hs σ9 τ9 (s2.tr h9)) e1 e2 with ⟨a1, a2, a3⟩ | hf
        · exact Or.inl ⟨a1, a2, s2.tr a3⟩
        · exact Or.inr hf
      · rw [if_pos nI_0] at e1 e2
        cases e1
        cases e2
        exact Or.inr ⟨rfl, rfl, hf⟩
/-- a dirty frame goes home -/
theorem sim_whf {B k : Nat} {σ τ σ' τ' : me_M} {r u : Int32} (h : rl B σ τ) (hk : k < 4) (hx : ¬ τ 10 k = -1) (e1 : k_wp ((σ (94 + 2 * k) 1).toNatClampNeg) (σ (94 + 2 * k) 1) (σ (94 + 2 * k) 2) (94 + 2 * k + 1) σ = (r, σ')) (e2 : m_wh ((τ 10 k).toNatClampNeg) (τ 11 k) k (nI 1) τ = (u, τ')) : (r = nI 1 ∧ u = nI 1 ∧ r_ok B σ τ σ' τ') ∨ (r = nI 0 ∧ u = nI 0 ∧ r_f B σ' τ') := by
  obtain ⟨g1, g2, g3⟩ := h.2.2.2.2.2.1 k hk
  have hv := (h.2.2.2.2.2.2.1.1 k hk).2 (by rw [g1]; exact hx)
  obtain ⟨j, hj, ej⟩ := vp_in_of hv (by omega)
  rw [← g1, ej, nI_clamp (by omega)] at e2
  rw [ej, nI_clamp (by omega), (g3 hx).1] at e1
  refine sim_wh3 5 j k (94 + 2 * k + 1) 0 (τ 11 k) (nI 1) σ τ σ' τ' r u h hj (by omega) (by omega) (by omega) (by omega) (fun σ1 τ1 h1 w hw => ?_) e1 e2
  rw [if_neg (by decide)]
  refine ((h1.1.2.2.2.2.2.1 k hk).2.2 ?_).2 w hw
  rw [h1.2.2.2.1 10 (by omega)]
  exact hx
/-- a torn home is written from beside -/
theorem sim_whs {B j v : Nat} {σ τ σ' τ' : me_M} {r u : Int32} (h : rl B σ τ) (hj : j < 12) (hv : v < 4) (e1 : k_wp j (nI j) (σ (6 + 4 * (12 + v) + 2) 0) (6 + 4 * (12 + v) + 1) σ = (r, σ')) (e2 : m_wh j (τ 3 (4 * v)) v (nI 0) τ = (u, τ')) : (r = nI 1 ∧ u = nI 1 ∧ r_ok B σ τ σ' τ') ∨ (r = nI 0 ∧ u = nI 0 ∧ r_f B σ' τ') := by
  have g := ((h.1.2 v hv).1 0 (by omega)).1
  have g : σ (6 + 4 * (12 + v) + 2) 0 = τ 3 (4 * v) := g
  rw [g] at e1
  refine sim_wh3 5 j v (6 + 4 * (12 + v) + 1) 0 (τ 3 (4 * v)) (nI 0) σ τ σ' τ' r u h hj (by omega) (by omega) (by omega) (by omega) (fun σ1 τ1 h1 w hw => ?_) e1 e2
  rw [if_pos nI_0]
  exact (h1.1.1.2 v hv).2 w hw
