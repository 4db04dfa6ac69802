/-! SIMULATION 9: frame, disk, read -/
theorem r_refuse {B : Nat} {σ τ : me_M} {x : Int32} {s' : me_M} (h : rl B σ τ) (c2 q : Int32) (e : s' = me_st τ 0 0 (nI 1)) : r_ans B (1, 0, σ) (nI 1) c2 q s' := by
  subst e
  exact ⟨rl_t0 _ h, (me_st_self τ 0 0 (nI 1)).trans rfl, fun h => by cases h⟩
theorem s_inz {x : Int32} {n : Nat} (hn : n + 1 < 2 ^ 31) : m_in x (nI 0) (nI n) = nI 0 ∧ k_isIn x (nI (n + 1)) = nI 0 ∨ ∃ j, j < n + 1 ∧ x = nI j ∧ m_in x (nI 0) (nI n) = nI 1 ∧ k_isIn x (nI (n + 1)) = nI 1 := by
  rw [← s_in x hn]
  rcases pk_ix x hn with c | c | ⟨j, hj, rfl⟩
  · exact Or.inl (by unfold k_isIn; rw [if_pos c]; exact ⟨rfl, rfl⟩)
  · refine Or.inl ?_
    unfold k_isIn
    by_cases c0 : x < 0
    · rw [if_pos c0]; exact ⟨rfl, rfl⟩
    · rw [if_neg c0, if_pos c]; exact ⟨rfl, rfl⟩
  · refine Or.inr ⟨j, hj, rfl, ?_⟩
    unfold k_isIn
    rw [if_neg (nI_pos (by omega)), if_neg (nI_ge hj (by omega))]
    exact ⟨rfl, rfl⟩
theorem bad1 : ¬ nI 1 = (0 : Int32) := by decide
theorem sim_frame {B : Nat} {σ τ : me_M} (a b : Int32) (h : rl B σ τ) : r_ans B (k_frame a b σ) (nI 1) (nI 0) (m_frame a b τ).1 (m_frame a b τ).2 := by
  have h := rl_t0 (nI 0) h
  have h0 : me_st τ 0 0 (nI 0) 0 0 = nI 0 := me_st_self _ _ _ _
  unfold k_frame m_frame
  generalize me_st τ 0 0 (nI 0) = τ0 at *
  dsimp only
  have hz : m_frame_30 a b (nI 1) τ0 = (nI 0, me_st τ0 0 0 (nI 1)) := by
    unfold m_frame_30
    rw [m_ref_yes (n := 1) h0 bad1 (by omega) (by omega)]
    dsimp only
    rw [if_neg bad1]
  rcases s_inz (x := a) (n := 3) (by omega) with ⟨e1, e2⟩ | ⟨k, hk, rfl, e1, e2⟩
  · rw [e1, if_pos nI_0, show k_isIn a (nI 4) = nI 0 from e2, if_pos nI_0, hz]
    exact r_refuse (x := 0) h _ _ rfl
  · rw [e1, if_neg bad1, show k_isIn (nI k) (nI 4) = nI 1 from e2, if_neg bad1]
    rcases s_inz (x := b) (n := 18) (by omega) with ⟨e1, e2⟩ | ⟨t, ht, rfl, e1, e2⟩
    · rw [e1, if_pos nI_0, show k_isIn b (nI 19) = nI 0 from e2, if_pos nI_0, hz]
      exact r_refuse (x := 0) h _ _ rfl
    · rw [e1, if_neg bad1, show k_isIn (nI t) (nI 19) = nI 1 from e2, if_neg bad1]
      suffices H : ∃ v, k_fval k t σ = v ∧ m_frame_30 (nI k) (nI t) (nI 0) τ0 = (v, τ0) by
        obtain ⟨v, hv1, hv2⟩ := H
        rw [hv2, nI_clamp (by omega), nI_clamp (by omega), hv1]
        exact ⟨h, h0, fun _ => rfl⟩
      unfold m_frame_30
      rw [m_ref_no h0]
      dsimp only
      rw [if_pos nI_0, nI_clamp (by omega), nI_clamp (by omega)]
      obtain ⟨g1, g2, g3⟩ := h.2.2.2.2.2.1 k hk
      have hE := h.2.2.2.2.2.2.1.1 k hk
      have et : ∀ j : Nat, j < 19 → (nI t = nI j ↔ t = j) := fun j hj => nI_eq (by omega) (by omega)
      unfold k_fval
      by_cases c0 : t = 0
      · subst c0
        exact ⟨τ0 10 k, by rw [if_pos (rfl : nI 0 = nI 0)]; exact g1, by rw [if_pos nI_0, if_pos nI_0]⟩
      · have n0 : ¬ nI t = 0 := nI_ne0 (by omega) (by omega)
        have n0' : ¬ nI t = nI 0 := fun q => c0 ((et 0 (by omega)).mp q)
        by_cases cp : τ0 10 k = -1
        · refine ⟨nI 0, ?_, by rw [if_neg n0, if_pos cp, if_neg n0]⟩
          obtain ⟨w1, w2, w3⟩ := hE.1 (by rw [g1]; exact cp)
          rw [if_neg n0']
          by_cases c1 : nI t = nI 1
          · rw [if_pos c1, w1]; rfl
          · rw [if_neg c1]
            by_cases c2 : nI t = nI 2
            · rw [if_pos c2, if_pos w2]
            · rw [if_neg c2]
              exact (w3 (t - 3) (by omega)).trans nI_0.symm
        · obtain ⟨w1, w2⟩ := g3 cp
          by_cases c1 : nI t = nI 1
          · exact ⟨τ0 11 k, by rw [if_neg n0', if_pos c1]; exact w1, by rw [if_neg n0, if_neg cp, if_pos c1]⟩
          · by_cases c2 : nI t = nI 2
            · refine ⟨if τ0 12 k = 0 then nI 0 else nI 1, by rw [if_neg n0', if_neg c1, if_pos c2]; simp only [g2], ?_⟩
              rw [if_neg n0, if_neg cp, if_neg c1, if_pos c2]
              by_cases c3 : τ0 12 k = 0
              · rw [if_pos c3, if_pos c3]
              · rw [if_neg c3, if_neg c3]
            · refine ⟨τ0 14 (16 * k + t - 3), ?_, by rw [if_neg n0, if_neg cp, if_neg c1, if_neg c2]⟩
              have t1 : ¬ t = 1 := fun q => c1 (by rw [q])
              have t2 : ¬ t = 2 := fun q => c2 (by rw [q])
              rw [if_neg n0', if_neg c1, if_neg c2, w2 (t - 3) (by omega)]
              congr 1
              omega
theorem sim_read {B : Nat} {σ τ : me_M} (a b : Int32) (hB : B ≤ 89000) (h : rl B σ τ) : r_ans (B + 1) (k_read a b σ) (nI 1) (nI 2) (m_read a b τ).1 (m_read a b τ).2 := by
  have h := rl_t0 (nI 0) h
  have h0 : me_st τ 0 0 (nI 0) 0 0 = nI 0 := me_st_self _ _ _ _
  unfold k_read m_read
  generalize me_st τ 0 0 (nI 0) = τ0 at *
  dsimp only
  have hz : m_read_31 a b (nI 1) τ0 = (nI 0, me_st τ0 0 0 (nI 1)) := by
    unfold m_read_31
    rw [m_ref_yes (n := 1) h0 bad1 (by omega) (by omega)]
    dsimp only
    rw [if_neg bad1]
  have hm : rl (B + 1) σ τ0 := h.mono (by omega)
  rcases s_inz (x := a) (n := 11) (by omega) with ⟨e1, e2⟩ | ⟨g, hg, rfl, e1, e2⟩
  · rw [e1, if_pos nI_0, show k_isIn a (nI 12) = nI 0 from e2, if_pos nI_0, hz]
    exact r_refuse (x := 0) hm _ _ rfl
  · rw [e1, if_neg bad1, show k_isIn (nI g) (nI 12) = nI 1 from e2, if_neg bad1]
    rcases s_inz (x := b) (n := 15) (by omega) with ⟨e1, e2⟩ | ⟨t, ht, rfl, e1, e2⟩
    · rw [e1, if_pos nI_0, show k_isIn b (nI 16) = nI 0 from e2, if_pos nI_0, hz]
      exact r_refuse (x := 0) hm _ _ rfl
    · rw [e1, if_neg bad1, show k_isIn (nI t) (nI 16) = nI 1 from e2, if_neg bad1]
      unfold m_read_31
      rw [m_ref_no h0]
      dsimp only
      rw [if_pos nI_0, nI_clamp (by omega), nI_clamp (by omega)]
      by_cases hd : σ 0 5 = 0
      · rw [m_ref_d0 h hd h0, if_pos hd]
        dsimp only
        rw [if_pos nI_0]
        rcases eb : k_br g σ with ⟨r1, σ1⟩
        rcases em : m_br g τ0 with ⟨q1, τ1⟩
        have hth : τ1 0 0 = nI 0 := (pu_mbr em hg (rl_mI (by omega) h).1).2.1.2.2.1.trans h0
        dsimp only
        rcases sim_br (by omega) h hg eb em with ⟨k, hk, rfl, rfl, hl, hp, -, -⟩ | ⟨rfl, rfl, hf⟩
        · rw [if_neg (nI_m3 (by omega)), if_neg (nI_m1 (by omega)), if_neg (nI_m1 (by omega)), nI_clamp (by omega)]
          refine ⟨?_, ?_, fun _ => rfl⟩
          · show rl (B + 1) (me_st σ1 0 14 (σ1 (94 + 2 * k + 1) t)) (me_st τ1 0 23 (τ1 14 (16 * k + t)))
            have hw := ((hl.2.2.2.2.2.1 k hk).2.2 (by rw [hp]; exact nI_m1 (by omega))).2 t ht
            rw [hw]
            generalize τ1 14 (16 * k + t) = v
            have g1 : ∀ x, x ≠ 0 → me_st σ1 0 14 v x = σ1 x := fun x hx => me_st_c σ1 _ _ hx
            have g2 : ∀ k, k ≠ 14 → me_st σ1 0 14 v 0 k = σ1 0 k := fun k hk => me_st_s σ1 0 _ hk
            have g3 : ∀ x, x ≠ 0 → me_st τ1 0 23 v x = τ1 x := fun x hx => me_st_c τ1 _ _ hx
            have g4 : ∀ k, k ≠ 23 → me_st τ1 0 23 v 0 k = τ1 0 k := fun k hk => me_st_s τ1 0 _ hk
            have ev : me_st σ1 0 14 v 0 14 = me_st τ1 0 23 v 0 23 := by rw [me_st_self, me_st_self]
            generalize me_st σ1 0 14 v = σ' at *
            generalize me_st τ1 0 23 v = τ' at *
            obtain ⟨hD, ⟨p0, p1, p2, p3, p4⟩, hX⟩ := hl
            refine ⟨r_D_s (fun x _ _ => g1 x (by omega)) (r_D_t (fun x _ _ => g3 x (by omega)) hD), ⟨?_, ?_, ?_, ?_, ev⟩, r_X_of (fun x hx => g1 x (by omega)) (fun k hk => g2 k (by omega)) (fun x hx => g3 x (by omega)) (fun k hk => g4 k (by omega)) hX⟩
            · rw [g2 4 (by omega), g4 24 (by omega)]; exact p0
            · rw [g2 6 (by omega), g4 26 (by omega)]; exact p1
            · rw [g2 7 (by omega), g4 27 (by omega)]; exact p2
            · rw [g2 8 (by omega), g4 28 (by omega)]; exact p3
          · show me_st τ1 0 23 (τ1 14 (16 * k + t)) 0 0 = nI 0
            rw [me_st_s _ _ _ (by omega)]
            exact hth
        · rw [if_pos rfl, if_pos rfl]
          refine ⟨?_, ?_, fun _ => rfl⟩
          · show rl (B + 1) (k_down (me_st σ1 0 14 (nI 0))) (me_st τ1 0 23 (nI 0))
            refine rl_of_f ?_
            obtain ⟨hD, ⟨p1, p2, p3, p4⟩, ⟨hL, hI, hJ⟩, ⟨q1, q2, n, m, e1, e3, h1, h2, h3⟩, ⟨ca, cb, a1, a2, a3, a4⟩, d1, d2, d3, d4⟩ := hf
            have g1 : ∀ x, x ≠ 0 → me_st σ1 0 14 (nI 0) x = σ1 x := fun x hx => me_st_c σ1 _ _ hx
            have g2 : ∀ k, k ≠ 14 → me_st σ1 0 14 (nI 0) 0 k = σ1 0 k := fun k hk => me_st_s σ1 0 _ hk
            have g3 : ∀ x, x ≠ 0 → me_st τ1 0 23 (nI 0) x = τ1 x := fun x hx => me_st_c τ1 _ _ hx
            have g4 : ∀ k, k ≠ 23 → me_st τ1 0 23 (nI 0) 0 k = τ1 0 k := fun k hk => me_st_s τ1 0 _ hk
            have ev : me_st σ1 0 14 (nI 0) 0 14 = me_st τ1 0 23 (nI 0) 0 23 := by rw [me_st_self, me_st_self]
            generalize me_st σ1 0 14 (nI 0) = σ' at *
            generalize me_st τ1 0 23 (nI 0) = τ' at *
            refine ⟨r_D_s (fun x _ _ => g1 x (by omega)) (r_D_t (fun x _ _ => g3 x (by omega)) hD), ⟨?_, ?_, ?_, ev⟩, ⟨fun r hr => ?_, fun x h7 h9 => ?_, fun i hi => ?_⟩, ⟨?_, ?_, n, m, ?_, ?_, h1, h2, by omega⟩, ⟨ca, cb, ?_, ?_, by omega, by omega⟩, ?_, ?_, ?_, fun k hk => ?_⟩
            · rw [g2 6 (by omega), g4 26 (by omega)]; exact p1
            · rw [g2 7 (by omega), g4 27 (by omega)]; exact p2
            · rw [g2 8 (by omega), g4 28 (by omega)]; exact p3
            · rw [g1 (70 + 2 * r) (by omega), g3 6 (by omega), g3 7 (by omega), g3 8 (by omega), g3 9 (by omega)]
              exact hL r hr
            · rw [g1 x (by omega)]
              exact hI x h7 h9
            · rw [g3 15 (by omega), g3 16 (by omega), g3 17 (by omega)]
              exact hJ i hi
            · rw [g2 3 (by omega), g4 10 (by omega)]; exact q1
            · rw [g2 12 (by omega), g4 17 (by omega)]; exact q2
            · rw [g2 12 (by omega)]; exact e1
            · rw [g2 3 (by omega)]; exact e3
            · rw [g2 13 (by omega)]; exact a1
            · rw [g4 16 (by omega)]; exact a2
            · rw [g4 24 (by omega)]; exact d1
            · rw [g4 25 (by omega)]; exact d2
            · rw [g4 18 (by omega)]; exact d3
            · rw [g3 10 (by omega), g3 12 (by omega)]; exact d4 k hk
          · show me_st τ1 0 23 (nI 0) 0 0 = nI 0
            rw [me_st_s _ _ _ (by omega)]
            exact hth
      · rw [m_ref_d1 h hd h0 (by omega) (by omega), if_neg hd]
        dsimp only
        rw [if_neg bad1]
        exact ⟨rl_t0 _ hm, (me_st_self τ0 0 0 (nI 2)).trans rfl, fun h => by cases h⟩
theorem sim_disk {B : Nat} {σ τ : me_M} (a b d : Int32) (h : rl B σ τ) : r_ans B (k_disk a b d σ) (nI 1) (nI 0) (m_disk a b d τ).1 (m_disk a b d τ).2 := by
  have h := rl_t0 (nI 0) h
  have h0 : me_st τ 0 0 (nI 0) 0 0 = nI 0 := me_st_self _ _ _ _
  unfold k_disk m_disk
  generalize me_st τ 0 0 (nI 0) = τ0 at *
  dsimp only
  rw [if_pos nI_0, if_neg bad1]
  have hz : m_disk_132 a b d (nI 1) τ0 = (nI 0, me_st τ0 0 0 (nI 1)) := by
    unfold m_disk_132
    rw [m_ref_yes (n := 1) h0 bad1 (by omega) (by omega)]
    dsimp only
    rw [if_neg bad1]
  rw [hz]
  have hr : ∀ q : Int32 × me_M, q = (nI 0, me_st τ0 0 0 (nI 1)) → r_ans B (1, 0, σ) (nI 1) (nI 0) q.1 q.2 := fun q hq => by subst hq; exact r_refuse (x := 0) h _ _ rfl
  have hg : ∀ (x y : Int32), x = y → r_ans B (0, x, σ) (nI 1) (nI 0) y τ0 := fun x y e => ⟨h, h0, fun _ => e⟩
  have hgo : m_disk_132 a b d (nI 0) τ0 = (if a = 0 then (if nI 16 ≤ (nI d.toNatClampNeg) then (τ0 1 ((4 * b.toNatClampNeg + d.toNatClampNeg) - 16), τ0) else (τ0 2 (16 * b.toNatClampNeg + d.toNatClampNeg), τ0)) else (if a = nI 1 then (if nI 16 ≤ (nI d.toNatClampNeg) then (if nI 20 ≤ (nI d.toNatClampNeg) then (τ0 4 ((4 * b.toNatClampNeg + d.toNatClampNeg) - 20), τ0) else (τ0 3 ((4 * b.toNatClampNeg + d.toNatClampNeg) - 16), τ0)) else (τ0 5 (16 * b.toNatClampNeg + d.toNatClampNeg), τ0)) else (if a = nI 3 then (τ0 0 10, τ0) else (if d = 0 then (τ0 6 b.toNatClampNeg, τ0) else (if d = nI 1 then (τ0 7 b.toNatClampNeg, τ0) else (if d = nI 2 then (τ0 8 b.toNatClampNeg, τ0) else (τ0 9 b.toNatClampNeg, τ0))))))) := by
    unfold m_disk_132
    rw [m_ref_no h0]
    dsimp only
    rw [if_pos nI_0]
  rw [hgo]
  clear hz hgo
  have lei : ∀ i j : Nat, i < 100 → j < 100 → (nI i ≤ nI j ↔ i ≤ j) := fun i j hi hj => nI_leI (by omega) (by omega)
  have eqi : ∀ i j : Nat, i < 100 → j < 100 → (nI i = nI j ↔ i = j) := fun i j hi hj => nI_eq (by omega) (by omega)
  by_cases a0 : a = 0
  · have a0' : a = nI 0 := a0.trans nI_0.symm
    rw [if_pos a0, if_pos a0', if_pos a0]
    unfold k_plvh
    rcases s_inz (x := b) (n := 11) (by omega) with ⟨e1, e2⟩ | ⟨p, hp, rfl, e1, e2⟩
    · rw [e1, show k_isIn b (nI 12) = nI 0 from e2, if_pos nI_0]
      exact hr _ (by rw [if_pos nI_0])
    · rw [e1, show k_isIn (nI p) (nI 12) = nI 1 from e2, if_neg bad1, if_neg bad1]
      rcases s_inz (x := d) (n := 19) (by omega) with ⟨e1, e2⟩ | ⟨t, ht, rfl, e1, e2⟩
      · rw [e1, show k_isIn d (nI 20) = nI 0 from e2, if_pos nI_0]
        exact hr _ (by rw [if_pos nI_0])
      · rw [e1, show k_isIn (nI t) (nI 20) = nI 1 from e2, if_neg bad1, if_neg bad1]
        dsimp only
        rw [if_pos rfl, nI_clamp (by omega), nI_clamp (by omega)]
        unfold k_pval
        have n20 : ¬ nI 20 ≤ nI t := fun q => by have := (lei 20 t (by omega) (by omega)).mp q; omega
        rw [if_neg n20]
        obtain ⟨d1, d2⟩ := h.1.1 p hp
        by_cases c : nI 16 ≤ nI t
        · have := (lei 16 t (by omega) (by omega)).mp c
          rw [if_pos c, if_pos c]
          refine hg _ _ ?_
          rw [(d1 (t - 16) (by omega)).1]
          congr 1
          omega
        · have : ¬ 16 ≤ t := fun q => c ((lei 16 t (by omega) (by omega)).mpr q)
          rw [if_neg c, if_neg c]
          exact hg _ _ (d2 t (by omega))
  · have a0' : ¬ a = nI 0 := fun q => a0 (q.trans nI_0)
    rw [if_neg a0, if_neg a0', if_neg a0]
    by_cases a1 : a = nI 1
    · rw [if_pos a1, if_pos a1, if_pos a1]
      unfold k_plvs
      rcases s_inz (x := b) (n := 3) (by omega) with ⟨e1, e2⟩ | ⟨p, hp, rfl, e1, e2⟩
      · rw [e1, show k_isIn b (nI 4) = nI 0 from e2, if_pos nI_0]
        exact hr _ (by rw [if_pos nI_0])
      · rw [e1, show k_isIn (nI p) (nI 4) = nI 1 from e2, if_neg bad1, if_neg bad1]
        rcases s_inz (x := d) (n := 23) (by omega) with ⟨e1, e2⟩ | ⟨t, ht, rfl, e1, e2⟩
        · rw [e1, show k_isIn d (nI 24) = nI 0 from e2, if_pos nI_0]
          exact hr _ (by rw [if_pos nI_0])
        · rw [e1, show k_isIn (nI t) (nI 24) = nI 1 from e2, if_neg bad1, if_neg bad1]
          dsimp only
          rw [if_pos rfl, nI_clamp (by omega), nI_clamp (by omega)]
          unfold k_pval
          obtain ⟨d1, d2⟩ := h.1.2 p hp
          by_cases c : nI 16 ≤ nI t
          · have := (lei 16 t (by omega) (by omega)).mp c
            rw [if_pos c, if_pos c]
            by_cases c2 : nI 20 ≤ nI t
            · have := (lei 20 t (by omega) (by omega)).mp c2
              rw [if_pos c2, if_pos c2]
              refine hg _ _ ?_
              rw [(d1 (t - 20) (by omega)).2]
              congr 1
              omega
            · have : ¬ 20 ≤ t := fun q => c2 ((lei 20 t (by omega) (by omega)).mpr q)
              rw [if_neg c2, if_neg c2]
              refine hg _ _ ?_
              rw [(d1 (t - 16) (by omega)).1]
              congr 1
              omega
          · have : ¬ 16 ≤ t := fun q => c ((lei 16 t (by omega) (by omega)).mpr q)
            rw [if_neg c, if_neg c]
            exact hg _ _ (d2 t (by omega))
    · rw [if_neg a1, if_neg a1, if_neg a1]
      by_cases a2 : a = nI 2
      · have a3 : ¬ a = nI 3 := by rw [a2]; decide
        rw [if_pos a2, if_pos a2, if_neg a3]
        unfold k_rcv
        rcases s_inz (x := b) (n := 11) (by omega) with ⟨e1, e2⟩ | ⟨p, hp, rfl, e1, e2⟩
        · rw [e1, show k_isIn b (nI 12) = nI 0 from e2, if_pos nI_0]
          exact hr _ (by rw [if_pos nI_0])
        · rw [e1, show k_isIn (nI p) (nI 12) = nI 1 from e2, if_neg bad1, if_neg bad1]
          rcases s_inz (x := d) (n := 3) (by omega) with ⟨e1, e2⟩ | ⟨t, ht, rfl, e1, e2⟩
          · rw [e1, show k_isIn d (nI 4) = nI 0 from e2, if_pos nI_0]
            exact hr _ (by rw [if_pos nI_0])
          · rw [e1, show k_isIn (nI t) (nI 4) = nI 1 from e2, if_neg bad1, if_neg bad1]
            dsimp only
            rw [if_pos rfl, nI_clamp (by omega)]
            unfold k_cval
            obtain ⟨l1, l2, l3, l4⟩ := h.2.2.1 p hp
            have : t = 0 ∨ t = 1 ∨ t = 2 ∨ t = 3 := by omega
            rcases this with rfl | rfl | rfl | rfl
            · rw [if_pos (rfl : nI 0 = nI 0), if_pos nI_0]
              exact hg _ _ l1
            · rw [if_neg (by decide : ¬ nI 1 = nI 0), if_pos (rfl : nI 1 = nI 1), if_neg bad1, if_pos (rfl : nI 1 = nI 1)]
              exact hg _ _ l2
            · rw [if_neg (by decide : ¬ nI 2 = nI 0), if_neg (by decide : ¬ nI 2 = nI 1), if_pos (rfl : nI 2 = nI 2), if_neg (by decide : ¬ nI 2 = 0), if_neg (by decide : ¬ nI 2 = nI 1), if_pos (rfl : nI 2 = nI 2)]
              exact hg _ _ l3
            · rw [if_neg (by decide : ¬ nI 3 = nI 0), if_neg (by decide : ¬ nI 3 = nI 1), if_neg (by decide : ¬ nI 3 = nI 2), if_neg (by decide : ¬ nI 3 = 0), if_neg (by decide : ¬ nI 3 = nI 1), if_neg (by decide : ¬ nI 3 = nI 2)]
              exact hg _ _ l4
      · rw [if_neg a2, if_neg a2]
        by_cases a3 : a = nI 3
        · rw [if_pos a3, if_pos a3, if_pos a3]
          unfold k_mkv
          by_cases b0 : b = 0
          · rw [if_pos b0, if_pos b0]
            by_cases d0 : d = 0
            · rw [if_pos d0, if_pos d0]
              dsimp only
              rw [if_pos rfl]
              exact hg _ _ h.2.2.2.2.2.2.2.2.2.1
            · rw [if_neg d0, if_neg d0]
              exact hr _ rfl
          · rw [if_neg b0, if_neg b0]
            exact hr _ rfl
        · rw [if_neg a3, if_neg a3]
          exact hr _ rfl
