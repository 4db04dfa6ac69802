/-! SIMULATION 11: change -/
theorem chw_end {n k a w i : Nat} {x y v : Int32} {s : me_M} (h : a + w ≤ i) (hi : i < 2 ^ 31) : k_chw_7 (n + 1) k a w x y v i s = s := by
  simp only [k_chw_7]
  rw [if_pos (nI_le h hi)]
theorem chw_go {n k a w i : Nat} {x y v : Int32} {s : me_M} (h : i < a + w) (hi : a + w < 2 ^ 31) : k_chw_7 (n + 1) k a w x y v i s = k_chw_7 n k a w x y (v + y) (i + 1) (s_kw k i v s) := by
  simp only [k_chw_7]
  rw [if_neg (nI_ge h hi)]
  rfl
theorem chg_end {n i w g b : Nat} {x y v : Int32} {s : me_M} (hw : w < 2 ^ 31) (h : w ≤ i) (hi : i < 2 ^ 31) : m_chg_103 (n + 1) (nI g) (nI b) (nI w) x y v i s = ((s 0 17) - nI 1, s) := by
  simp only [m_chg_103]
  rw [nI_clamp hw, if_pos (nI_le h hi)]
theorem chg_go {n i w g b k : Nat} {x y v : Int32} {s s1 : me_M} (hw : w < 2 ^ 31) (h : i < w) (hg : g < 2 ^ 31) (hb : b < 2 ^ 31) (hk : k < 2 ^ 31) (e : m_br g s = (nI k, s1)) : m_chg_103 (n + 1) (nI g) (nI b) (nI w) x y v i s = m_chg_103 n (nI g) (nI b) (nI w) x y (v + y) (i + 1) (s_mw k g b i v s1) := by
  simp only [m_chg_103]
  rw [nI_clamp hw, if_neg (nI_ge h hw), nI_clamp hg, e]
  dsimp only
  rw [if_neg (nI_m1 hk), nI_clamp hk, nI_clamp hb]
  rfl
theorem sim_chw {g k bb ww m : Nat} {x y : Int32} (hg : g < 12) (hk : k < 4) (hb : bb + ww ≤ 16) (hm : m < 2 ^ 29) : ∀ (d nC nR B i n : Nat) (v : Int32) (σ s s1 : me_M), 1 ≤ d → i + d = ww → B + 2 * d ≤ 89000 → m_br g s = (nI k, s1) → rl B σ s1 → s1 10 k = nI g → σ (94 + 2 * k) 4 = σ 0 13 → σ 0 5 = 0 → σ 0 12 = nI n → σ 0 3 = nI m → n + d ≤ m + 12 → d + 1 ≤ nC → d + 1 ≤ nR → s1 0 0 = nI 0 → ∃ σ' τ', k_chw_7 nC k bb ww x y v (bb + i) σ = σ' ∧ m_chg_103 nR (nI g) (nI bb) (nI ww) x y v i s = (τ' 0 17 - nI 1, τ') ∧ rl (B + 2 * d) σ' τ' ∧ τ' 0 0 = nI 0 := by
  intro d
  induction d with
  | zero => intro nC nR B i n v σ s s1 h1; omega
  | succ d ih =>
    intro nC nR B i n v σ s s1 h1 h2 hB e hl hp ht hd en em hr hC hR h0
    obtain ⟨nC, rfl⟩ : ∃ z, nC = z + 1 := ⟨nC - 1, by omega⟩
    obtain ⟨nR, rfl⟩ : ∃ z, nR = z + 1 := ⟨nR - 1, by omega⟩
    rw [chw_go (by omega) (by omega), chg_go (by omega) (by omega) (by omega) (by omega) (by omega) e]
    obtain ⟨w1, w2, w3, w4, w5, w6⟩ := sim_word (v := v) (i := i) (bb := bb) (by omega) hl hg hk (by omega) hp hd en (by omega) em (by omega) (by omega)
    generalize s_kw k (bb + i) v σ = σ1 at *
    generalize s_mw k g bb i v s1 = τ1 at *
    by_cases hd0 : d = 0
    · subst hd0
      obtain ⟨nC, rfl⟩ : ∃ z, nC = z + 1 := ⟨nC - 1, by omega⟩
      obtain ⟨nR, rfl⟩ : ∃ z, nR = z + 1 := ⟨nR - 1, by omega⟩
      exact ⟨σ1, τ1, chw_end (by omega) (by omega), chg_end (by omega) (by omega) (by omega), w1.mono (by omega), w6.trans h0⟩
    · have hpn : ¬ τ1 10 k = -1 := by rw [w2]; exact nI_m1 (by omega)
      have hG := w1.2.2.2.2.2.1
      have hE := w1.2.2.2.2.2.2.1
      have hit : m_br g τ1 = (nI k, s_mt k τ1) := m_br_hit hk w2 (fun j hj hn q => hE.2 k j hk hj (Ne.symm hn) (by rw [(hG k hk).1]; exact hpn) (by rw [(hG k hk).1, (hG j hj).1, w2, q]))
      have ht1 : σ1 (94 + 2 * k) 4 = σ1 0 13 := by rw [w5, ht, w3 13 (by omega) (by omega)]
      obtain ⟨y1, y2, y3⟩ := sim_again (by omega) w1 hk hpn ht1
      obtain ⟨σ', τ', z1, z2, z3, z4⟩ := ih nC nR (B + 2) (i + 1) (n + 1) (v + y) σ1 τ1 (s_mt k τ1) (by omega) (by omega) (by omega) hit y1 (by rw [y2]; exact w2) ht1 (by rw [w3 5 (by omega) (by omega)]; exact hd) w4 (by rw [w3 3 (by omega) (by omega)]; exact em) (by omega) (by omega) (by omega) (by rw [y3, w6]; exact h0)
      exact ⟨σ', τ', z1, z2, z3.mono (by omega), z4⟩
/-- the part behind the room -/
theorem sim_chg_go {B g bb ww : Nat} {x y : Int32} {σ τ : me_M} (hB : B ≤ 80000) (h : rl B σ τ) (h0 : τ 0 0 = nI 0) (hg : g < 12) (hb : bb + ww ≤ 16) (hw : 1 ≤ ww) (hd : σ 0 5 = 0) (hr : nI ww ≤ k_room σ) : r_ans (B + 40) (let q103 := k_br g σ; let r103 := q103.1; let s103 := q103.2; if r103 = (-3) then (let q116 := k_lose s103; let r116 := q116.1; let s116 := q116.2; (0, r116, s116)) else (let s134 := k_chw r103.toNatClampNeg bb ww x y s103; (0, (s134 0 12) - (nI 1), s134))) (nI 1) (nI 2) (m_chg_103 (ww + 1) (nI g) (nI bb) (nI ww) x y x 0 τ).1 (m_chg_103 (ww + 1) (nI g) (nI bb) (nI ww) x y x 0 τ).2 := by
  rcases eb : k_br g σ with ⟨r1, σ1⟩
  rcases em : m_br g τ with ⟨q1, τ1⟩
  have hth : τ1 0 0 = nI 0 := (pu_mbr em hg (rl_mI (by omega) h).1).2.1.2.2.1.trans h0
  dsimp only
  rcases sim_br (by omega) h hg eb em with ⟨k, hk, rfl, rfl, hl, hp, ht, h9⟩ | ⟨rfl, rfl, hf⟩
  · rw [if_neg (nI_m3 (by omega)), nI_clamp (by omega)]
    obtain ⟨n, w, m, e1, e2, e3, l1, l2, l3, l4, l5⟩ := h.2.2.2.2.2.2.2.2.1
    have hroom : n + ww ≤ m + 12 := by
      unfold k_room at hr
      rw [e1, e3, nI_add, pk_sub (by omega)] at hr
      have := (nI_leI (by omega) (by omega)).mp hr
      omega
    obtain ⟨σ', τ', z1, z2, z3, z4⟩ := sim_chw (x := x) (y := y) hg hk hb (m := m) (by omega) ww (ww + 1) (ww + 1) (B + 1) 0 n x σ1 τ τ1 hw (by omega) (by omega) em hl hp ht (by rw [h9 5 (by omega) (by omega) (by omega) (by omega) (by omega)]; exact hd) (by rw [h9 12 (by omega) (by omega) (by omega) (by omega) (by omega)]; exact e1) (by rw [h9 3 (by omega) (by omega) (by omega) (by omega) (by omega)]; exact e3) hroom (by omega) (by omega) hth
    have z1 : k_chw k bb ww x y σ1 = σ' := z1
    rw [z1, z2]
    exact ⟨z3.mono (by omega), z4, fun _ => by show σ' 0 12 - nI 1 = τ' 0 17 - nI 1; rw [z3.2.2.2.2.2.2.2.2.2.2.1]⟩
  · rw [if_pos rfl]
    have e : m_chg_103 (ww + 1) (nI g) (nI bb) (nI ww) x y x 0 τ = (-3, τ1) := by
      simp only [m_chg_103]
      rw [nI_clamp (by omega), if_neg (nI_ge (by omega) (by omega)), nI_clamp (by omega), em]
      dsimp only
      rw [if_pos rfl]
    rw [e]
    exact ⟨(rl_of_f hf).mono (by omega), hth, fun _ => rfl⟩
theorem sim_chg {B : Nat} {σ τ : me_M} (a b w x y : Int32) (hB : B ≤ 80000) (h : rl B σ τ) : r_ans (B + 40) (k_chg a b w x y σ) (nI 1) (nI 2) (m_chg a b w x y τ).1 (m_chg a b w x y τ).2 := by
  have h := rl_t0 (nI 0) h
  have h0 : me_st τ 0 0 (nI 0) 0 0 = nI 0 := me_st_self _ _ _ _
  unfold k_chg m_chg
  generalize me_st τ 0 0 (nI 0) = τ0 at *
  dsimp only
  have hz : m_chg_44 a b w x y (nI 1) τ0 = (nI 0, me_st τ0 0 0 (nI 1)) := by
    unfold m_chg_44
    rw [m_ref_yes (n := 1) h0 bad1 (by omega) (by omega)]
    dsimp only
    rw [if_neg bad1]
  have hm : rl (B + 40) σ τ0 := h.mono (by omega)
  rw [hz]
  rcases s_inz (x := a) (n := 11) (by omega) with ⟨e1, e2⟩ | ⟨g, hg, rfl, e1, e2⟩
  · rw [e1, if_pos nI_0, show k_isIn a (nI 12) = nI 0 from e2, if_pos nI_0]
    exact r_refuse (x := 0) hm _ _ rfl
  · rw [e1, if_neg bad1, show k_isIn (nI g) (nI 12) = nI 1 from e2, if_neg bad1]
    rcases s_inz (x := b) (n := 15) (by omega) with ⟨e1, e2⟩ | ⟨t, ht, rfl, e1, e2⟩
    · rw [e1, if_pos nI_0, show k_isIn b (nI 16) = nI 0 from e2, if_pos nI_0]
      exact r_refuse (x := 0) hm _ _ rfl
    · rw [e1, if_neg bad1, show k_isIn (nI t) (nI 16) = nI 1 from e2, if_neg bad1]
      by_cases c1 : w < nI 1
      · rw [if_pos c1, if_pos c1]
        exact r_refuse (x := 0) hm _ _ rfl
      · rw [if_neg c1, if_neg c1]
        by_cases c2 : w ≤ nI 16 - nI t
        · rw [if_pos c2, if_pos c2]
          obtain ⟨-, hw, hw1, hw2⟩ := pu_kchg (b := nI t) (w := w) (by rw [show k_isIn (nI t) (nI 16) = nI 1 from e2]; exact bad1) c1 c2
          obtain ⟨ww, hww, rfl⟩ := vp_in_of hw (by omega)
          rw [nI_clamp (by omega)] at hw1
          rw [nI_clamp (by omega), nI_clamp (by omega)] at hw2
          unfold m_chg_44
          rw [m_ref_no h0]
          dsimp only
          rw [if_pos nI_0]
          by_cases hd : σ 0 5 = 0
          · rw [m_ref_d0 h hd h0, if_pos hd]
            dsimp only
            rw [if_pos nI_0]
            have er : k_room σ = m_room τ0 := by
              unfold k_room m_room
              rw [h.2.2.2.2.2.2.2.2.2.1, h.2.2.2.2.2.2.2.2.2.2.1]
            rw [← er]
            by_cases c3 : nI ww ≤ k_room σ
            · rw [if_pos c3, if_pos c3, if_pos c3, nI_clamp (by omega), nI_clamp (by omega), nI_clamp (by omega)]
              exact sim_chg_go hB h h0 hg hw2 hw1 hd c3
            · rw [if_neg c3, if_neg c3]
              rcases ec : k_cam σ with ⟨r1, σ1⟩
              rcases em : m_chk τ0 with ⟨q1, τ1⟩
              have hth : τ1 0 0 = nI 0 := (pu_mchk em (rl_mI (by omega) h).1).2.2.trans h0
              dsimp only
              rcases sim_cam (by omega) h ec em with ⟨z, hz, rfl, rfl, hk, hd5⟩ | ⟨rfl, rfl, hf⟩
              · rw [if_neg (nI_m3 (by omega)), if_neg (nI_m3 (by omega))]
                have er : k_room σ1 = m_room τ1 := by
                  unfold k_room m_room
                  rw [hk.2.2.2.2.2.2.2.2.2.1, hk.2.2.2.2.2.2.2.2.2.2.1]
                rw [← er]
                by_cases c4 : nI ww ≤ k_room σ1
                · rw [if_pos c4, if_pos c4, nI_clamp (by omega), nI_clamp (by omega), nI_clamp (by omega)]
                  exact sim_chg_go hB hk hth hg hw2 hw1 (hd5.trans hd) c4
                · rw [if_neg c4, if_neg c4]
                  exact ⟨hk.mono (by omega), hth, fun _ => rfl⟩
              · rw [if_pos rfl, if_pos rfl]
                exact ⟨(rl_of_f hf).mono (by omega), hth, fun _ => rfl⟩
          · rw [m_ref_d1 h hd h0 (by omega) (by omega), if_neg hd]
            dsimp only
            rw [if_neg bad1]
            exact ⟨rl_t0 _ hm, (me_st_self τ0 0 0 (nI 2)).trans rfl, fun h => by cases h⟩
        · rw [if_neg c2, if_neg c2]
          exact r_refuse (x := 0) hm _ _ rfl
