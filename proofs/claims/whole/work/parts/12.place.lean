def k_put_9 : Nat → Nat → Nat → Int32 → Int32 → Nat → Nat → me_M → me_M
  | 0, j, d, x, y, q, i, s => s
  | n + 1, j, d, x, y, q, i, s => if nI (d * 4 + 4) ≤ (nI i) then (let s42 := me_st s (6 + 4 * j + 2) d y; let s49 := me_st s42 (6 + 4 * j + 3) d x; s49) else (let s29 := me_st s (6 + 4 * j + 1) i (s q i); k_put_9 n j d x y q (i + 1) s29)
def k_put (j : Nat) (d : Nat) (x : Int32) (y : Int32) (q : Nat) (σ : me_M) : me_M := k_put_9 5 j d x y q (d * 4) σ
set_option maxRecDepth 100000 in
set_option maxHeartbeats 4000000 in
theorem c_X2_putSector (l : Launch) (D : va_G) (cy : Nat → ClassId) (ad : Nat → Nat) (xr : va_W) (j : Nat) (d : Nat) (x : Int32) (y : Int32) (q : Nat) (σ : me_M) (hj : j < 16) (hd : d < 4) (hq : (6 ≤ q ∧ q < 70 ∧ q % 4 = 3) ∨ (94 ≤ q ∧ q < 102 ∧ q % 2 = 1)) (sz : Nat) : me_Cv l yX2_putSector wsX2_putSector ({ frames := 0, cells := 0, slots := 0, locals := 0 }) D (me_T cy) (kk_W cy ad xr) [.ref (ad (6 + 4 * j)), .int (nI d), .int x, .int y, .ref (ad q)] sz σ (k_put j d x y q σ) := by
  refine Met.ofW (cc := cX2_putSector) (maxL := 7) (ret := none) (by decide) rfl ?_
  intro p e st m args below meth c s₁ B hml hv
  obtain ⟨rfl, hsz, hP, hK, hD0⟩ := hv
  have hx := B.exec
  have hb := B.bytes
  have hr := B.returns
  have hts := atoms_spec (ws := wsX2_putSector) B.pre
  have hown : st.vm.findClass RX2 = some m.cls := findClass_of_methodNamed B.named
  have hlocks := B.notSynchronized
  have in2 : ∀ w ∈ u_ws RX2 TX2 3, w ∈ wsX2_putSector := by decide +kernel
  have k9 := hts (.fieldLink RX2 9 "TwinWrites$Place" "words" "[I") (by decide +kernel)
  have k15 := hts (.fieldLink RX2 15 "TwinWrites$Place" "stamps" "[I") (by decide +kernel)
  have k18 := hts (.fieldLink RX2 18 "TwinWrites$Place" "pages" "[I") (by decide +kernel)
  subst hsz
  have hD := hD0.self (sz := st.heap.size)
  have hA : ∀ q : Nat, st.heap.size ≤ q → va_A ((kk_W cy ad xr) σ) st.heap.size q := fun q h => Or.inr h
  have hS : va_S (va_A ((kk_W cy ad xr) σ) st.heap.size) st.heap st.heap [] := va_S.rf
  generalize va_A ((kk_W cy ad xr) σ) st.heap.size = A at hD hA hS ⊢
  have hl := lv_entry ([.ref (ad (6 + 4 * j)), .int (nI d), .int x, .int y, .ref (ad q)]) (n := 7) (Nat.le_of_ble_eq_true rfl)
  rw [lg_entry_eq]
  generalize (lg_sl ([.ref (ad (6 + 4 * j)), .int (nI d), .int x, .int y, .ref (ad q)]) ++ List.replicate (7 - (lg_sl ([.ref (ad (6 + 4 * j)), .int (nI d), .int x, .int y, .ref (ad q)])).length) Slot.unset).toArray = ls at hl ⊢
  have hl : lv_has ls 7 [(0, .ref (ad (6 + 4 * j))), (1, .int (nI d)), (2, .int x), (3, .int y), (4, .ref (ad q))] := hl
  refine lv_iload_n hx hb dX2_putSector_0 rfl (lv_at hl 1 rfl) ?_
  refine lv_iconst (v := nI 4) hx hb dX2_putSector_1 (by decide) ?_
  refine lv_imul hx hb dX2_putSector_2 ?_
  refine me_top (pk_mul _ _) ?_
  refine lv_istore (lv' := [(5, .int (nI (d * 4))), (0, .ref (ad (6 + 4 * j))), (1, .int (nI d)), (2, .int x), (3, .int y), (4, .ref (ad q))]) hx hb dX2_putSector_3 hl (by decide) rfl (fun ls hl => ?_)
  refine lv_iload hx hb dX2_putSector_5 (lv_at hl 0 rfl) ?_
  refine lv_istore (lv' := [(6, .int (nI (d * 4))), (5, .int (nI (d * 4))), (0, .ref (ad (6 + 4 * j))), (1, .int (nI d)), (2, .int x), (3, .int y), (4, .ref (ad q))]) hx hb dX2_putSector_7 hl (by decide) rfl (fun ls hl => ?_)
  have J9 : ∀ (n : Nat) (i : Nat) (s : me_M) (H : Heap) (locs : List Loc) (hP : va_P D vwCl ((kk_W cy ad xr) s) H) (hD : va_D A ((kk_W cy ad xr) s)) (hS : va_S A st.heap H locs) (ls : Array Slot) (hl : lv_has ls 7 [(6, .int (nI i)), (5, .int (nI (d * 4))), (0, .ref (ad (6 + 4 * j))), (1, .int (nI d)), (2, .int x), (3, .int y), (4, .ref (ad q))]), ∀ (hi : d * 4 ≤ i ∧ i ≤ d * 4 + 4), ∀ (hn : d * 4 + 5 ≤ i + n), k_put j d x y q σ = k_put_9 n j d x y q i s → W p l e (headSpec wsX2_putSector ({ frames := 0, cells := 0, slots := 0, locals := 0 })).room st m ([.ref (ad (6 + 4 * j)), .int (nI d), .int x, .int y, .ref (ad q)] : List Value).toArray below meth c H locs 0 0 (MQ below (va_Qv (fun σ' => σ' = k_put j d x y q σ) (me_B D (me_T cy) A (kk_W cy ad xr)) A) ([.ref (ad (6 + 4 * j)), .int (nI d), .int x, .int y, .ref (ad q)] : List Value).toArray st 0 0 A) (F0 m 9 ls []) := by
    intro n
    induction n with
    | zero => intro i s H locs hP hD hS ls hl hi hn hf9; exfalso; omega
    | succ n ih =>
      intro i s H locs hP hD hS ls hl hi hn hf9
      refine lv_iload hx hb dX2_putSector_9 (lv_at hl 0 rfl) ?_
      refine lv_iload hx hb dX2_putSector_11 (lv_at hl 1 rfl) ?_
      refine lv_iconst (v := nI 4) hx hb dX2_putSector_13 (by decide) ?_
      refine lv_iadd hx hb dX2_putSector_14 ?_
      refine me_top (nI_add _ _) ?_
      refine lv_icmp_ge (tgt := 36) hx hb dX2_putSector_15 (by decide) (fun c15 => ?_) (fun c15 => ?_)
      ·
        try have h15 := (nI_leI (by omega) (by omega)).mp c15
        refine lv_aload_n hx hb dX2_putSector_36 rfl (lv_at hl 2 rfl) ?_
        refine va_get (D := D) (ci := 2) (v := .ref (ad (6 + 4 * j + 2))) (C := RX2) (T := TX2) (N := 3) hx hb hts in2 hown hK hP (6 + 4 * j) (me_get (by omega) (kk_pl cy ad (by omega) _)) rfl 1 (by decide) k15 (fun _ h9 => h9) rfl dX2_putSector_37 ?_
        refine lv_iload_n hx hb dX2_putSector_40 rfl (lv_at hl 3 rfl) ?_
        refine lv_iload_n hx hb dX2_putSector_41 rfl (lv_at hl 5 rfl) ?_
        refine me_iast hx hb hK hP hD hS (6 + 4 * j + 2) 0 (by omega) (fun f => kk_4 cy ad (by omega) f) rfl d rfl (by omega) (by decide) dX2_putSector_42 (fun s42 H locs e42 hP hD hS => ?_)
        refine lv_aload_n hx hb dX2_putSector_43 rfl (lv_at hl 2 rfl) ?_
        refine va_get (D := D) (ci := 2) (v := .ref (ad (6 + 4 * j + 3))) (C := RX2) (T := TX2) (N := 3) hx hb hts in2 hown hK hP (6 + 4 * j) (me_get (by omega) (kk_pl cy ad (by omega) _)) rfl 2 (by decide) k18 (fun _ h9 => h9) rfl dX2_putSector_44 ?_
        refine lv_iload_n hx hb dX2_putSector_47 rfl (lv_at hl 3 rfl) ?_
        refine lv_iload_n hx hb dX2_putSector_48 rfl (lv_at hl 4 rfl) ?_
        refine me_iast hx hb hK hP hD hS (6 + 4 * j + 3) 0 (by omega) (fun f => kk_4 cy ad (by omega) f) rfl d rfl (by omega) (by decide) dX2_putSector_49 (fun s49 H locs e49 hP hD hS => ?_)
        exact me_retv hx hb hr hlocks hK hP hD hS (by rw [hf9]; simp only [k_put_9, if_pos c15, e42, e49]) dX2_putSector_50
      ·
        try have h15 := (not_congr (nI_leI (by omega) (by omega))).mp c15
        refine lv_aload_n hx hb dX2_putSector_18 rfl (lv_at hl 2 rfl) ?_
        refine va_get (D := D) (ci := 2) (v := .ref (ad (6 + 4 * j + 1))) (C := RX2) (T := TX2) (N := 3) hx hb hts in2 hown hK hP (6 + 4 * j) (me_get (by omega) (kk_pl cy ad (by omega) _)) rfl 0 (by decide) k9 (fun _ h9 => h9) rfl dX2_putSector_19 ?_
        refine lv_iload hx hb dX2_putSector_22 (lv_at hl 0 rfl) ?_
        refine lv_aload hx hb dX2_putSector_24 (lv_at hl 6 rfl) ?_
        refine lv_iload hx hb dX2_putSector_26 (lv_at hl 0 rfl) ?_
        refine me_iald hx hb hK hP q 0 (by omega) (fun f => kk_16 cy ad (by omega) f) rfl i rfl (by omega) (by decide) dX2_putSector_28 ?_
        refine me_iast hx hb hK hP hD hS (6 + 4 * j + 1) 0 (by omega) (fun f => kk_16 cy ad (by omega) f) rfl i rfl (by omega) (by decide) dX2_putSector_29 (fun s29 H locs e29 hP hD hS => ?_)
        refine lv_iinc (v := nI (i + 1)) (lv' := [(6, .int (nI (i + 1))), (5, .int (nI (d * 4))), (0, .ref (ad (6 + 4 * j))), (1, .int (nI d)), (2, .int x), (3, .int y), (4, .ref (ad q))]) hx hb dX2_putSector_30 hl (k := 0) rfl (me_inc _) (by decide) rfl (fun ls hl => ?_)
        refine lv_goto (tgt := 9) hx hb dX2_putSector_33 (by decide) ?_
        exact ih (i + 1) s29 _ _ hP hD hS ls (lv_sub hl [0, 1, 2, 3, 4, 5, 6] rfl) (by omega) (by omega) (by rw [hf9]; simp only [k_put_9, if_neg c15, e29])
  exact J9 5 (d * 4) σ _ _ hP hD hS ls (lv_sub hl [0, 1, 2, 3, 4, 5, 6] rfl) (by omega) (by omega) (by simp only [k_put])

def k_whole_2 : Nat → Nat → Nat → me_M → Int32
  | 0, j, i, s => 0
  | n + 1, j, i, s => if nI 4 ≤ (nI i) then (nI 1) else (if (s (6 + 4 * j + 2) i) = s (6 + 4 * j + 2) 0 then (if (s (6 + 4 * j + 3) i) = s (6 + 4 * j + 3) 0 then (k_whole_2 n j (i + 1) s) else (nI 0)) else (nI 0))
def k_whole (j : Nat) (σ : me_M) : Int32 := k_whole_2 4 j 1 σ
set_option maxRecDepth 100000 in
set_option maxHeartbeats 4000000 in
theorem c_X2_isWhole (l : Launch) (D : va_G) (cy : Nat → ClassId) (ad : Nat → Nat) (xr : va_W) (j : Nat) (σ : me_M) (hj : j < 16) (sz : Nat) : me_Ci l yX2_isWhole wsX2_isWhole ({ frames := 0, cells := 0, slots := 0, locals := 0 }) D (me_T cy) (kk_W cy ad xr) [.ref (ad (6 + 4 * j))] sz σ (k_whole j σ, σ) := by
  refine Met.ofW (cc := cX2_isWhole) (maxL := 2) (ret := (some .boolean)) (by decide) rfl ?_
  intro p e st m args below meth c s₁ B hml hv
  obtain ⟨rfl, hsz, hP, hK, hD0⟩ := hv
  have hx := B.exec
  have hb := B.bytes
  have hr := B.returns
  have hts := atoms_spec (ws := wsX2_isWhole) B.pre
  have hown : st.vm.findClass RX2 = some m.cls := findClass_of_methodNamed B.named
  have hlocks := B.notSynchronized
  have in2 : ∀ w ∈ u_ws RX2 TX2 3, w ∈ wsX2_isWhole := by decide +kernel
  have k15 := hts (.fieldLink RX2 15 "TwinWrites$Place" "stamps" "[I") (by decide +kernel)
  have k18 := hts (.fieldLink RX2 18 "TwinWrites$Place" "pages" "[I") (by decide +kernel)
  subst hsz
  have hD := hD0.self (sz := st.heap.size)
  have hA : ∀ q : Nat, st.heap.size ≤ q → va_A ((kk_W cy ad xr) σ) st.heap.size q := fun q h => Or.inr h
  have hS : va_S (va_A ((kk_W cy ad xr) σ) st.heap.size) st.heap st.heap [] := va_S.rf
  generalize va_A ((kk_W cy ad xr) σ) st.heap.size = A at hD hA hS ⊢
  have hl := lv_entry ([.ref (ad (6 + 4 * j))]) (n := 2) (Nat.le_of_ble_eq_true rfl)
  rw [lg_entry_eq]
  generalize (lg_sl ([.ref (ad (6 + 4 * j))]) ++ List.replicate (2 - (lg_sl ([.ref (ad (6 + 4 * j))])).length) Slot.unset).toArray = ls at hl ⊢
  have hl : lv_has ls 2 [(0, .ref (ad (6 + 4 * j)))] := hl
  refine lv_iconst (v := nI 1) hx hb dX2_isWhole_0 (by decide) ?_
  refine lv_istore_n (lv' := [(1, .int (nI 1)), (0, .ref (ad (6 + 4 * j)))]) hx hb dX2_isWhole_1 rfl hl (by decide) rfl (fun ls hl => ?_)
  have J2 : ∀ (n : Nat) (i : Nat) (H : Heap) (locs : List Loc) (hP : va_P D vwCl ((kk_W cy ad xr) σ) H) (hD : va_D A ((kk_W cy ad xr) σ)) (hS : va_S A st.heap H locs) (ls : Array Slot) (hl : lv_has ls 2 [(1, .int (nI i)), (0, .ref (ad (6 + 4 * j)))]), ∀ (hi : 1 ≤ i ∧ i ≤ 4), ∀ (hn : 5 ≤ i + n), k_whole j σ = k_whole_2 n j i σ → W p l e (headSpec wsX2_isWhole ({ frames := 0, cells := 0, slots := 0, locals := 0 })).room st m ([.ref (ad (6 + 4 * j))] : List Value).toArray below meth c H locs 0 0 (MQ below (va_Qi (fun r σ' => (r, σ') = (k_whole j σ, σ)) (me_B D (me_T cy) A (kk_W cy ad xr)) A) ([.ref (ad (6 + 4 * j))] : List Value).toArray st 0 0 A) (F0 m 2 ls []) := by
    intro n
    induction n with
    | zero => intro i H locs hP hD hS ls hl hi hn hf2; exfalso; omega
    | succ n ih =>
      intro i H locs hP hD hS ls hl hi hn hf2
      refine lv_iload_n hx hb dX2_isWhole_2 rfl (lv_at hl 0 rfl) ?_
      refine lv_iconst (v := nI 4) hx hb dX2_isWhole_3 (by decide) ?_
      refine lv_icmp_ge (tgt := 45) hx hb dX2_isWhole_4 (by decide) (fun c4 => ?_) (fun c4 => ?_)
      ·
        try have h4 := (nI_leI (by omega) (by omega)).mp c4
        refine lv_iconst (v := nI 1) hx hb dX2_isWhole_45 (by decide) ?_
        exact me_retr hx hb hr rfl hlocks hK hP hD hS (by rw [hf2]; simp only [k_whole_2, if_pos c4]) dX2_isWhole_46
      ·
        try have h4 := (not_congr (nI_leI (by omega) (by omega))).mp c4
        refine lv_aload_n hx hb dX2_isWhole_7 rfl (lv_at hl 1 rfl) ?_
        refine va_get (D := D) (ci := 2) (v := .ref (ad (6 + 4 * j + 2))) (C := RX2) (T := TX2) (N := 3) hx hb hts in2 hown hK hP (6 + 4 * j) (me_get (by omega) (kk_pl cy ad (by omega) _)) rfl 1 (by decide) k15 (fun _ h9 => h9) rfl dX2_isWhole_8 ?_
        refine lv_iload_n hx hb dX2_isWhole_11 rfl (lv_at hl 0 rfl) ?_
        refine me_iald hx hb hK hP (6 + 4 * j + 2) 0 (by omega) (fun f => kk_4 cy ad (by omega) f) rfl i rfl (by omega) (by decide) dX2_isWhole_12 ?_
        refine lv_aload_n hx hb dX2_isWhole_13 rfl (lv_at hl 1 rfl) ?_
        refine va_get (D := D) (ci := 2) (v := .ref (ad (6 + 4 * j + 2))) (C := RX2) (T := TX2) (N := 3) hx hb hts in2 hown hK hP (6 + 4 * j) (me_get (by omega) (kk_pl cy ad (by omega) _)) rfl 1 (by decide) k15 (fun _ h9 => h9) rfl dX2_isWhole_14 ?_
        refine lv_iconst (v := nI 0) hx hb dX2_isWhole_17 (by decide) ?_
        refine me_iald hx hb hK hP (6 + 4 * j + 2) 0 (by omega) (fun f => kk_4 cy ad (by omega) f) rfl 0 rfl (by omega) (by decide) dX2_isWhole_18 ?_
        refine lv_icmp_ne (tgt := 37) hx hb dX2_isWhole_19 (by decide) (fun c19 => ?_) (fun c19 => ?_)
        ·
          refine lv_iconst (v := nI 0) hx hb dX2_isWhole_37 (by decide) ?_
          exact me_retr hx hb hr rfl hlocks hK hP hD hS (by rw [hf2]; simp only [k_whole_2, if_neg c4, if_neg c19]) dX2_isWhole_38
        ·
          refine lv_aload_n hx hb dX2_isWhole_22 rfl (lv_at hl 1 rfl) ?_
          refine va_get (D := D) (ci := 2) (v := .ref (ad (6 + 4 * j + 3))) (C := RX2) (T := TX2) (N := 3) hx hb hts in2 hown hK hP (6 + 4 * j) (me_get (by omega) (kk_pl cy ad (by omega) _)) rfl 2 (by decide) k18 (fun _ h9 => h9) rfl dX2_isWhole_23 ?_
          refine lv_iload_n hx hb dX2_isWhole_26 rfl (lv_at hl 0 rfl) ?_
          refine me_iald hx hb hK hP (6 + 4 * j + 3) 0 (by omega) (fun f => kk_4 cy ad (by omega) f) rfl i rfl (by omega) (by decide) dX2_isWhole_27 ?_
          refine lv_aload_n hx hb dX2_isWhole_28 rfl (lv_at hl 1 rfl) ?_
          refine va_get (D := D) (ci := 2) (v := .ref (ad (6 + 4 * j + 3))) (C := RX2) (T := TX2) (N := 3) hx hb hts in2 hown hK hP (6 + 4 * j) (me_get (by omega) (kk_pl cy ad (by omega) _)) rfl 2 (by decide) k18 (fun _ h9 => h9) rfl dX2_isWhole_29 ?_
          refine lv_iconst (v := nI 0) hx hb dX2_isWhole_32 (by decide) ?_
          refine me_iald hx hb hK hP (6 + 4 * j + 3) 0 (by omega) (fun f => kk_4 cy ad (by omega) f) rfl 0 rfl (by omega) (by decide) dX2_isWhole_33 ?_
          refine lv_icmp_eq (tgt := 39) hx hb dX2_isWhole_34 (by decide) (fun c34 => ?_) (fun c34 => ?_)
          ·
            refine lv_iinc (v := nI (i + 1)) (lv' := [(1, .int (nI (i + 1))), (0, .ref (ad (6 + 4 * j)))]) hx hb dX2_isWhole_39 hl (k := 0) rfl (me_inc _) (by decide) rfl (fun ls hl => ?_)
            refine lv_goto (tgt := 2) hx hb dX2_isWhole_42 (by decide) ?_
            exact ih (i + 1) _ _ hP hD hS ls (lv_sub hl [0, 1] rfl) (by omega) (by omega) (by rw [hf2]; simp only [k_whole_2, if_neg c4, if_pos c19, if_pos c34])
          ·
            refine lv_iconst (v := nI 0) hx hb dX2_isWhole_37 (by decide) ?_
            exact me_retr hx hb hr rfl hlocks hK hP hD hS (by rw [hf2]; simp only [k_whole_2, if_neg c4, if_pos c19, if_neg c34]) dX2_isWhole_38
  exact J2 4 1 _ _ hP hD hS ls (lv_sub hl [0, 1] rfl) (by omega) (by omega) (by simp only [k_whole])

def k_pval (j : Nat) (t : Nat) (σ : me_M) : Int32 := if nI 16 ≤ (nI t) then (if nI 20 ≤ (nI t) then (σ (6 + 4 * j + 3) (t - 20)) else (σ (6 + 4 * j + 2) (t - 16))) else (σ (6 + 4 * j + 1) t)
set_option maxRecDepth 100000 in
set_option maxHeartbeats 4000000 in
theorem c_X2_value (l : Launch) (D : va_G) (cy : Nat → ClassId) (ad : Nat → Nat) (xr : va_W) (j : Nat) (t : Nat) (σ : me_M) (hj : j < 16) (ht : t < 24) (sz : Nat) : me_Ci l yX2_value wsX2_value ({ frames := 0, cells := 0, slots := 0, locals := 0 }) D (me_T cy) (kk_W cy ad xr) [.ref (ad (6 + 4 * j)), .int (nI t)] sz σ (k_pval j t σ, σ) := by
  refine Met.ofW (cc := cX2_value) (maxL := 2) (ret := (some .int)) (by decide) rfl ?_
  intro p e st m args below meth c s₁ B hml hv
  obtain ⟨rfl, hsz, hP, hK, hD0⟩ := hv
  have hx := B.exec
  have hb := B.bytes
  have hr := B.returns
  have hts := atoms_spec (ws := wsX2_value) B.pre
  have hown : st.vm.findClass RX2 = some m.cls := findClass_of_methodNamed B.named
  have hlocks := B.notSynchronized
  have in2 : ∀ w ∈ u_ws RX2 TX2 3, w ∈ wsX2_value := by decide +kernel
  have k9 := hts (.fieldLink RX2 9 "TwinWrites$Place" "words" "[I") (by decide +kernel)
  have k15 := hts (.fieldLink RX2 15 "TwinWrites$Place" "stamps" "[I") (by decide +kernel)
  have k18 := hts (.fieldLink RX2 18 "TwinWrites$Place" "pages" "[I") (by decide +kernel)
  subst hsz
  have hD := hD0.self (sz := st.heap.size)
  have hA : ∀ q : Nat, st.heap.size ≤ q → va_A ((kk_W cy ad xr) σ) st.heap.size q := fun q h => Or.inr h
  have hS : va_S (va_A ((kk_W cy ad xr) σ) st.heap.size) st.heap st.heap [] := va_S.rf
  generalize va_A ((kk_W cy ad xr) σ) st.heap.size = A at hD hA hS ⊢
  have hl := lv_entry ([.ref (ad (6 + 4 * j)), .int (nI t)]) (n := 2) (Nat.le_of_ble_eq_true rfl)
  rw [lg_entry_eq]
  generalize (lg_sl ([.ref (ad (6 + 4 * j)), .int (nI t)]) ++ List.replicate (2 - (lg_sl ([.ref (ad (6 + 4 * j)), .int (nI t)])).length) Slot.unset).toArray = ls at hl ⊢
  have hl : lv_has ls 2 [(0, .ref (ad (6 + 4 * j))), (1, .int (nI t))] := hl
  refine lv_iload_n hx hb dX2_value_0 rfl (lv_at hl 1 rfl) ?_
  refine lv_bipush (v := nI 16) hx hb dX2_value_1 (by decide) ?_
  refine lv_icmp_ge (tgt := 13) hx hb dX2_value_3 (by decide) (fun c3 => ?_) (fun c3 => ?_)
  ·
    try have h3 := (nI_leI (by omega) (by omega)).mp c3
    refine lv_iload_n hx hb dX2_value_13 rfl (lv_at hl 1 rfl) ?_
    refine lv_bipush (v := nI 20) hx hb dX2_value_14 (by decide) ?_
    refine lv_icmp_ge (tgt := 31) hx hb dX2_value_16 (by decide) (fun c16 => ?_) (fun c16 => ?_)
    ·
      try have h16 := (nI_leI (by omega) (by omega)).mp c16
      refine lv_aload_n hx hb dX2_value_31 rfl (lv_at hl 0 rfl) ?_
      refine va_get (D := D) (ci := 2) (v := .ref (ad (6 + 4 * j + 3))) (C := RX2) (T := TX2) (N := 3) hx hb hts in2 hown hK hP (6 + 4 * j) (me_get (by omega) (kk_pl cy ad (by omega) _)) rfl 2 (by decide) k18 (fun _ h9 => h9) rfl dX2_value_32 ?_
      refine lv_iload_n hx hb dX2_value_35 rfl (lv_at hl 1 rfl) ?_
      refine lv_bipush (v := nI 20) hx hb dX2_value_36 (by decide) ?_
      refine lv_isub hx hb dX2_value_38 ?_
      refine me_top (pk_sub (by omega)) ?_
      refine me_iald hx hb hK hP (6 + 4 * j + 3) 0 (by omega) (fun f => kk_4 cy ad (by omega) f) rfl (t - 20) rfl (by omega) (by decide) dX2_value_39 ?_
      exact me_retr hx hb hr rfl hlocks hK hP hD hS (by simp only [k_pval, if_pos c3, if_pos c16]) dX2_value_40
    ·
      try have h16 := (not_congr (nI_leI (by omega) (by omega))).mp c16
      refine lv_aload_n hx hb dX2_value_19 rfl (lv_at hl 0 rfl) ?_
      refine va_get (D := D) (ci := 2) (v := .ref (ad (6 + 4 * j + 2))) (C := RX2) (T := TX2) (N := 3) hx hb hts in2 hown hK hP (6 + 4 * j) (me_get (by omega) (kk_pl cy ad (by omega) _)) rfl 1 (by decide) k15 (fun _ h9 => h9) rfl dX2_value_20 ?_
      refine lv_iload_n hx hb dX2_value_23 rfl (lv_at hl 1 rfl) ?_
      refine lv_bipush (v := nI 16) hx hb dX2_value_24 (by decide) ?_
      refine lv_isub hx hb dX2_value_26 ?_
      refine me_top (pk_sub (by omega)) ?_
      refine me_iald hx hb hK hP (6 + 4 * j + 2) 0 (by omega) (fun f => kk_4 cy ad (by omega) f) rfl (t - 16) rfl (by omega) (by decide) dX2_value_27 ?_
      refine lv_goto (tgt := 40) hx hb dX2_value_28 (by decide) ?_
      exact me_retr hx hb hr rfl hlocks hK hP hD hS (by simp only [k_pval, if_pos c3, if_neg c16]) dX2_value_40
  ·
    try have h3 := (not_congr (nI_leI (by omega) (by omega))).mp c3
    refine lv_aload_n hx hb dX2_value_6 rfl (lv_at hl 0 rfl) ?_
    refine va_get (D := D) (ci := 2) (v := .ref (ad (6 + 4 * j + 1))) (C := RX2) (T := TX2) (N := 3) hx hb hts in2 hown hK hP (6 + 4 * j) (me_get (by omega) (kk_pl cy ad (by omega) _)) rfl 0 (by decide) k9 (fun _ h9 => h9) rfl dX2_value_7 ?_
    refine lv_iload_n hx hb dX2_value_10 rfl (lv_at hl 1 rfl) ?_
    refine me_iald hx hb hK hP (6 + 4 * j + 1) 0 (by omega) (fun f => kk_16 cy ad (by omega) f) rfl t rfl (by omega) (by decide) dX2_value_11 ?_
    exact me_retr hx hb hr rfl hlocks hK hP hD hS (by simp only [k_pval, if_neg c3]) dX2_value_12
