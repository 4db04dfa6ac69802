def k_empty_2 : Nat → Nat → Nat → me_M → me_M
  | 0, k, i, s => s
  | n + 1, k, i, s => if nI 16 ≤ (nI i) then (let s23 := me_st s (94 + 2 * k) 1 ((-1)); let s28 := me_st s23 (94 + 2 * k) 2 (nI 0); let s33 := me_st s28 (94 + 2 * k) 3 (nI 0); let s38 := me_st s33 (94 + 2 * k) 4 (nI 0); s38) else (let s14 := me_st s (94 + 2 * k + 1) i (nI 0); k_empty_2 n k (i + 1) s14)
def k_empty (k : Nat) (σ : me_M) : me_M := k_empty_2 17 k 0 σ
set_option maxRecDepth 100000 in
set_option maxHeartbeats 4000000 in
theorem c_X1_empty (l : Launch) (D : va_G) (cy : Nat → ClassId) (ad : Nat → Nat) (xr : va_W) (k : Nat) (σ : me_M) (hk : k < 4) (sz : Nat) : me_Cv l yX1_empty wsX1_empty ({ frames := 0, cells := 0, slots := 0, locals := 0 }) D (me_T cy) (kk_W cy ad xr) [.ref (ad (94 + 2 * k))] sz σ (k_empty k σ) := by
  refine Met.ofW (cc := cX1_empty) (maxL := 2) (ret := none) (by decide) rfl ?_
  intro p e st m args below meth c s₁ B hml hv
  obtain ⟨rfl, hsz, hP, hK, hD0⟩ := hv
  have hx := B.exec
  have hb := B.bytes
  have hr := B.returns
  have hts := atoms_spec (ws := wsX1_empty) B.pre
  have hown : st.vm.findClass RX1 = some m.cls := findClass_of_methodNamed B.named
  have hlocks := B.notSynchronized
  have in1 : ∀ w ∈ u_ws RX1 TX1 5, w ∈ wsX1_empty := by decide +kernel
  have k9 := hts (.fieldLink RX1 9 "TwinWrites$Frame" "words" "[I") (by decide +kernel)
  have k15 := hts (.fieldLink RX1 15 "TwinWrites$Frame" "page" "I") (by decide +kernel)
  have k19 := hts (.fieldLink RX1 19 "TwinWrites$Frame" "stamp" "I") (by decide +kernel)
  have k22 := hts (.fieldLink RX1 22 "TwinWrites$Frame" "dirty" "Z") (by decide +kernel)
  have k26 := hts (.fieldLink RX1 26 "TwinWrites$Frame" "asked" "I") (by decide +kernel)
  subst hsz
  have hD := hD0.self (sz := st.heap.size)
  have hA : ∀ q : Nat, st.heap.size ≤ q → va_A ((kk_W cy ad xr) σ) st.heap.size q := fun q h => Or.inr h
  have hS : va_S (va_A ((kk_W cy ad xr) σ) st.heap.size) st.heap st.heap [] := va_S.rf
  generalize va_A ((kk_W cy ad xr) σ) st.heap.size = A at hD hA hS ⊢
  have hl := lv_entry ([.ref (ad (94 + 2 * k))]) (n := 2) (Nat.le_of_ble_eq_true rfl)
  rw [lg_entry_eq]
  generalize (lg_sl ([.ref (ad (94 + 2 * k))]) ++ List.replicate (2 - (lg_sl ([.ref (ad (94 + 2 * k))])).length) Slot.unset).toArray = ls at hl ⊢
  have hl : lv_has ls 2 [(0, .ref (ad (94 + 2 * k)))] := hl
  refine lv_iconst (v := nI 0) hx hb dX1_empty_0 (by decide) ?_
  refine lv_istore_n (lv' := [(1, .int (nI 0)), (0, .ref (ad (94 + 2 * k)))]) hx hb dX1_empty_1 rfl hl (by decide) rfl (fun ls hl => ?_)
  have J2 : ∀ (n : Nat) (i : Nat) (s : me_M) (H : Heap) (locs : List Loc) (hP : va_P D vwCl ((kk_W cy ad xr) s) H) (hD : va_D A ((kk_W cy ad xr) s)) (hS : va_S A st.heap H locs) (ls : Array Slot) (hl : lv_has ls 2 [(1, .int (nI i)), (0, .ref (ad (94 + 2 * k)))]), ∀ (hi : i ≤ 16), ∀ (hn : 17 ≤ i + n), k_empty k σ = k_empty_2 n k i s → W p l e (headSpec wsX1_empty ({ frames := 0, cells := 0, slots := 0, locals := 0 })).room st m ([.ref (ad (94 + 2 * k))] : List Value).toArray below meth c H locs 0 0 (MQ below (va_Qv (fun σ' => σ' = k_empty k σ) (me_B D (me_T cy) A (kk_W cy ad xr)) A) ([.ref (ad (94 + 2 * k))] : List Value).toArray st 0 0 A) (F0 m 2 ls []) := by
    intro n
    induction n with
    | zero => intro i s H locs hP hD hS ls hl hi hn hf2; exfalso; omega
    | succ n ih =>
      intro i s H locs hP hD hS ls hl hi hn hf2
      refine lv_iload_n hx hb dX1_empty_2 rfl (lv_at hl 0 rfl) ?_
      refine lv_bipush (v := nI 16) hx hb dX1_empty_3 (by decide) ?_
      refine lv_icmp_ge (tgt := 21) hx hb dX1_empty_5 (by decide) (fun c5 => ?_) (fun c5 => ?_)
      ·
        try have h5 := (nI_leI (by omega) (by omega)).mp c5
        refine lv_aload_n hx hb dX1_empty_21 rfl (lv_at hl 1 rfl) ?_
        refine lv_iconst (v := (-1)) hx hb dX1_empty_22 (by decide) ?_
        refine me_put (ty := .int) (ci := 1) (C := RX1) (T := TX1) (M := 5) hx hb hts in1 tyX1 tyX1_ok nmX1 hown hK hP hD hS (94 + 2 * k) (by omega) (kk_fr cy ad (by omega) _) rfl 1 (by decide) k15 (fun _ h9 => h9) rfl (by decide +kernel) rfl rfl (Nat.le_of_ble_eq_true rfl) (kk_fr cy ad (by omega) _) dX1_empty_23 (fun s23 H locs e23 hP hD hS => ?_)
        refine lv_aload_n hx hb dX1_empty_26 rfl (lv_at hl 1 rfl) ?_
        refine lv_iconst (v := nI 0) hx hb dX1_empty_27 (by decide) ?_
        refine me_put (ty := .int) (ci := 1) (C := RX1) (T := TX1) (M := 5) hx hb hts in1 tyX1 tyX1_ok nmX1 hown hK hP hD hS (94 + 2 * k) (by omega) (kk_fr cy ad (by omega) _) rfl 2 (by decide) k19 (fun _ h9 => h9) rfl (by decide +kernel) rfl rfl (Nat.le_of_ble_eq_true rfl) (kk_fr cy ad (by omega) _) dX1_empty_28 (fun s28 H locs e28 hP hD hS => ?_)
        refine lv_aload_n hx hb dX1_empty_31 rfl (lv_at hl 1 rfl) ?_
        refine lv_iconst (v := nI 0) hx hb dX1_empty_32 (by decide) ?_
        refine me_put (ty := .boolean) (ci := 1) (C := RX1) (T := TX1) (M := 5) hx hb hts in1 tyX1 tyX1_ok nmX1 hown hK hP hD hS (94 + 2 * k) (by omega) (kk_fr cy ad (by omega) _) rfl 3 (by decide) k22 (fun _ h9 => h9) rfl (by decide +kernel) rfl rfl (Nat.le_of_ble_eq_true rfl) (kk_fr cy ad (by omega) _) dX1_empty_33 (fun s33 H locs e33 hP hD hS => ?_)
        refine lv_aload_n hx hb dX1_empty_36 rfl (lv_at hl 1 rfl) ?_
        refine lv_iconst (v := nI 0) hx hb dX1_empty_37 (by decide) ?_
        refine me_put (ty := .int) (ci := 1) (C := RX1) (T := TX1) (M := 5) hx hb hts in1 tyX1 tyX1_ok nmX1 hown hK hP hD hS (94 + 2 * k) (by omega) (kk_fr cy ad (by omega) _) rfl 4 (by decide) k26 (fun _ h9 => h9) rfl (by decide +kernel) rfl rfl (Nat.le_of_ble_eq_true rfl) (kk_fr cy ad (by omega) _) dX1_empty_38 (fun s38 H locs e38 hP hD hS => ?_)
        exact me_retv hx hb hr hlocks hK hP hD hS (by rw [hf2]; simp only [k_empty_2, if_pos c5, e23, e28, e33, e38]) dX1_empty_41
      ·
        try have h5 := (not_congr (nI_leI (by omega) (by omega))).mp c5
        refine lv_aload_n hx hb dX1_empty_8 rfl (lv_at hl 1 rfl) ?_
        refine va_get (D := D) (ci := 1) (v := .ref (ad (94 + 2 * k + 1))) (C := RX1) (T := TX1) (N := 5) hx hb hts in1 hown hK hP (94 + 2 * k) (me_get (by omega) (kk_fr cy ad (by omega) _)) rfl 0 (by decide) k9 (fun _ h9 => h9) rfl dX1_empty_9 ?_
        refine lv_iload_n hx hb dX1_empty_12 rfl (lv_at hl 0 rfl) ?_
        refine lv_iconst (v := nI 0) hx hb dX1_empty_13 (by decide) ?_
        refine me_iast hx hb hK hP hD hS (94 + 2 * k + 1) 0 (by omega) (fun f => kk_16 cy ad (by omega) f) rfl i rfl (by omega) (by decide) dX1_empty_14 (fun s14 H locs e14 hP hD hS => ?_)
        refine lv_iinc (v := nI (i + 1)) (lv' := [(1, .int (nI (i + 1))), (0, .ref (ad (94 + 2 * k)))]) hx hb dX1_empty_15 hl (k := 0) rfl (me_inc _) (by decide) rfl (fun ls hl => ?_)
        refine lv_goto (tgt := 2) hx hb dX1_empty_18 (by decide) ?_
        exact ih (i + 1) s14 _ _ hP hD hS ls (lv_sub hl [0, 1] rfl) (by omega) (by omega) (by rw [hf2]; simp only [k_empty_2, if_neg c5, e14])
  exact J2 17 0 σ _ _ hP hD hS ls (lv_sub hl [0, 1] rfl) (by omega) (by omega) (by simp only [k_empty])

def k_fill_2 : Nat → Nat → Int32 → Nat → Nat → me_M → me_M
  | 0, k, x, j, i, s => s
  | n + 1, k, x, j, i, s => if nI 16 ≤ (nI i) then (let s28 := me_st s (94 + 2 * k) 1 x; let s38 := me_st s28 (94 + 2 * k) 2 (s28 (6 + 4 * j + 2) 0); let s43 := me_st s38 (94 + 2 * k) 3 (nI 0); s43) else (let s19 := me_st s (94 + 2 * k + 1) i (s (6 + 4 * j + 1) i); k_fill_2 n k x j (i + 1) s19)
def k_fill (k : Nat) (x : Int32) (j : Nat) (σ : me_M) : me_M := k_fill_2 17 k x j 0 σ
set_option maxRecDepth 100000 in
set_option maxHeartbeats 4000000 in
theorem c_X1_fill (l : Launch) (D : va_G) (cy : Nat → ClassId) (ad : Nat → Nat) (xr : va_W) (k : Nat) (x : Int32) (j : Nat) (σ : me_M) (hk : k < 4) (hj : j < 16) (sz : Nat) : me_Cv l yX1_fill wsX1_fill ({ frames := 0, cells := 0, slots := 0, locals := 0 }) D (me_T cy) (kk_W cy ad xr) [.ref (ad (94 + 2 * k)), .int x, .ref (ad (6 + 4 * j))] sz σ (k_fill k x j σ) := by
  refine Met.ofW (cc := cX1_fill) (maxL := 4) (ret := none) (by decide) rfl ?_
  intro p e st m args below meth c s₁ B hml hv
  obtain ⟨rfl, hsz, hP, hK, hD0⟩ := hv
  have hx := B.exec
  have hb := B.bytes
  have hr := B.returns
  have hts := atoms_spec (ws := wsX1_fill) B.pre
  have hown : st.vm.findClass RX1 = some m.cls := findClass_of_methodNamed B.named
  have hlocks := B.notSynchronized
  have in1 : ∀ w ∈ u_ws RX1 TX1 5, w ∈ wsX1_fill := by decide +kernel
  have in2 : ∀ w ∈ u_ws RX2 TX2 3, w ∈ wsX1_fill := by decide +kernel
  have k9 := hts (.fieldLink RX1 9 "TwinWrites$Frame" "words" "[I") (by decide +kernel)
  have k15 := hts (.fieldLink RX1 15 "TwinWrites$Frame" "page" "I") (by decide +kernel)
  have k19 := hts (.fieldLink RX1 19 "TwinWrites$Frame" "stamp" "I") (by decide +kernel)
  have k22 := hts (.fieldLink RX1 22 "TwinWrites$Frame" "dirty" "Z") (by decide +kernel)
  have k29 := hts (.fieldLink RX1 29 "TwinWrites$Place" "words" "[I") (by decide +kernel)
  have k32 := hts (.fieldLink RX1 32 "TwinWrites$Place" "stamps" "[I") (by decide +kernel)
  subst hsz
  have hD := hD0.self (sz := st.heap.size)
  have hA : ∀ q : Nat, st.heap.size ≤ q → va_A ((kk_W cy ad xr) σ) st.heap.size q := fun q h => Or.inr h
  have hS : va_S (va_A ((kk_W cy ad xr) σ) st.heap.size) st.heap st.heap [] := va_S.rf
  generalize va_A ((kk_W cy ad xr) σ) st.heap.size = A at hD hA hS ⊢
  have hl := lv_entry ([.ref (ad (94 + 2 * k)), .int x, .ref (ad (6 + 4 * j))]) (n := 4) (Nat.le_of_ble_eq_true rfl)
  rw [lg_entry_eq]
  generalize (lg_sl ([.ref (ad (94 + 2 * k)), .int x, .ref (ad (6 + 4 * j))]) ++ List.replicate (4 - (lg_sl ([.ref (ad (94 + 2 * k)), .int x, .ref (ad (6 + 4 * j))])).length) Slot.unset).toArray = ls at hl ⊢
  have hl : lv_has ls 4 [(0, .ref (ad (94 + 2 * k))), (1, .int x), (2, .ref (ad (6 + 4 * j)))] := hl
  refine lv_iconst (v := nI 0) hx hb dX1_fill_0 (by decide) ?_
  refine lv_istore_n (lv' := [(3, .int (nI 0)), (0, .ref (ad (94 + 2 * k))), (1, .int x), (2, .ref (ad (6 + 4 * j)))]) hx hb dX1_fill_1 rfl hl (by decide) rfl (fun ls hl => ?_)
  have J2 : ∀ (n : Nat) (i : Nat) (s : me_M) (H : Heap) (locs : List Loc) (hP : va_P D vwCl ((kk_W cy ad xr) s) H) (hD : va_D A ((kk_W cy ad xr) s)) (hS : va_S A st.heap H locs) (ls : Array Slot) (hl : lv_has ls 4 [(3, .int (nI i)), (0, .ref (ad (94 + 2 * k))), (1, .int x), (2, .ref (ad (6 + 4 * j)))]), ∀ (hi : i ≤ 16), ∀ (hn : 17 ≤ i + n), k_fill k x j σ = k_fill_2 n k x j i s → W p l e (headSpec wsX1_fill ({ frames := 0, cells := 0, slots := 0, locals := 0 })).room st m ([.ref (ad (94 + 2 * k)), .int x, .ref (ad (6 + 4 * j))] : List Value).toArray below meth c H locs 0 0 (MQ below (va_Qv (fun σ' => σ' = k_fill k x j σ) (me_B D (me_T cy) A (kk_W cy ad xr)) A) ([.ref (ad (94 + 2 * k)), .int x, .ref (ad (6 + 4 * j))] : List Value).toArray st 0 0 A) (F0 m 2 ls []) := by
    intro n
    induction n with
    | zero => intro i s H locs hP hD hS ls hl hi hn hf2; exfalso; omega
    | succ n ih =>
      intro i s H locs hP hD hS ls hl hi hn hf2
      refine lv_iload_n hx hb dX1_fill_2 rfl (lv_at hl 0 rfl) ?_
      refine lv_bipush (v := nI 16) hx hb dX1_fill_3 (by decide) ?_
      refine lv_icmp_ge (tgt := 26) hx hb dX1_fill_5 (by decide) (fun c5 => ?_) (fun c5 => ?_)
      ·
        try have h5 := (nI_leI (by omega) (by omega)).mp c5
        refine lv_aload_n hx hb dX1_fill_26 rfl (lv_at hl 1 rfl) ?_
        refine lv_iload_n hx hb dX1_fill_27 rfl (lv_at hl 2 rfl) ?_
        refine me_put (ty := .int) (ci := 1) (C := RX1) (T := TX1) (M := 5) hx hb hts in1 tyX1 tyX1_ok nmX1 hown hK hP hD hS (94 + 2 * k) (by omega) (kk_fr cy ad (by omega) _) rfl 1 (by decide) k15 (fun _ h9 => h9) rfl (by decide +kernel) rfl rfl (Nat.le_of_ble_eq_true rfl) (kk_fr cy ad (by omega) _) dX1_fill_28 (fun s28 H locs e28 hP hD hS => ?_)
        refine lv_aload_n hx hb dX1_fill_31 rfl (lv_at hl 1 rfl) ?_
        refine lv_aload_n hx hb dX1_fill_32 rfl (lv_at hl 3 rfl) ?_
        refine va_get (D := D) (ci := 2) (v := .ref (ad (6 + 4 * j + 2))) (C := RX2) (T := TX2) (N := 3) hx hb hts in2 hown hK hP (6 + 4 * j) (me_get (by omega) (kk_pl cy ad (by omega) _)) rfl 1 (by decide) k32 (fun _ h9 => h9) rfl dX1_fill_33 ?_
        refine lv_iconst (v := nI 0) hx hb dX1_fill_36 (by decide) ?_
        refine me_iald hx hb hK hP (6 + 4 * j + 2) 0 (by omega) (fun f => kk_4 cy ad (by omega) f) rfl 0 rfl (by omega) (by decide) dX1_fill_37 ?_
        refine me_put (ty := .int) (ci := 1) (C := RX1) (T := TX1) (M := 5) hx hb hts in1 tyX1 tyX1_ok nmX1 hown hK hP hD hS (94 + 2 * k) (by omega) (kk_fr cy ad (by omega) _) rfl 2 (by decide) k19 (fun _ h9 => h9) rfl (by decide +kernel) rfl rfl (Nat.le_of_ble_eq_true rfl) (kk_fr cy ad (by omega) _) dX1_fill_38 (fun s38 H locs e38 hP hD hS => ?_)
        refine lv_aload_n hx hb dX1_fill_41 rfl (lv_at hl 1 rfl) ?_
        refine lv_iconst (v := nI 0) hx hb dX1_fill_42 (by decide) ?_
        refine me_put (ty := .boolean) (ci := 1) (C := RX1) (T := TX1) (M := 5) hx hb hts in1 tyX1 tyX1_ok nmX1 hown hK hP hD hS (94 + 2 * k) (by omega) (kk_fr cy ad (by omega) _) rfl 3 (by decide) k22 (fun _ h9 => h9) rfl (by decide +kernel) rfl rfl (Nat.le_of_ble_eq_true rfl) (kk_fr cy ad (by omega) _) dX1_fill_43 (fun s43 H locs e43 hP hD hS => ?_)
        exact me_retv hx hb hr hlocks hK hP hD hS (by rw [hf2]; simp only [k_fill_2, if_pos c5, e28, e38, e43]) dX1_fill_46
      ·
        try have h5 := (not_congr (nI_leI (by omega) (by omega))).mp c5
        refine lv_aload_n hx hb dX1_fill_8 rfl (lv_at hl 1 rfl) ?_
        refine va_get (D := D) (ci := 1) (v := .ref (ad (94 + 2 * k + 1))) (C := RX1) (T := TX1) (N := 5) hx hb hts in1 hown hK hP (94 + 2 * k) (me_get (by omega) (kk_fr cy ad (by omega) _)) rfl 0 (by decide) k9 (fun _ h9 => h9) rfl dX1_fill_9 ?_
        refine lv_iload_n hx hb dX1_fill_12 rfl (lv_at hl 0 rfl) ?_
        refine lv_aload_n hx hb dX1_fill_13 rfl (lv_at hl 3 rfl) ?_
        refine va_get (D := D) (ci := 2) (v := .ref (ad (6 + 4 * j + 1))) (C := RX2) (T := TX2) (N := 3) hx hb hts in2 hown hK hP (6 + 4 * j) (me_get (by omega) (kk_pl cy ad (by omega) _)) rfl 0 (by decide) k29 (fun _ h9 => h9) rfl dX1_fill_14 ?_
        refine lv_iload_n hx hb dX1_fill_17 rfl (lv_at hl 0 rfl) ?_
        refine me_iald hx hb hK hP (6 + 4 * j + 1) 0 (by omega) (fun f => kk_16 cy ad (by omega) f) rfl i rfl (by omega) (by decide) dX1_fill_18 ?_
        refine me_iast hx hb hK hP hD hS (94 + 2 * k + 1) 0 (by omega) (fun f => kk_16 cy ad (by omega) f) rfl i rfl (by omega) (by decide) dX1_fill_19 (fun s19 H locs e19 hP hD hS => ?_)
        refine lv_iinc (v := nI (i + 1)) (lv' := [(3, .int (nI (i + 1))), (0, .ref (ad (94 + 2 * k))), (1, .int x), (2, .ref (ad (6 + 4 * j)))]) hx hb dX1_fill_20 hl (k := 0) rfl (me_inc _) (by decide) rfl (fun ls hl => ?_)
        refine lv_goto (tgt := 2) hx hb dX1_fill_23 (by decide) ?_
        exact ih (i + 1) s19 _ _ hP hD hS ls (lv_sub hl [0, 1, 2, 3] rfl) (by omega) (by omega) (by rw [hf2]; simp only [k_fill_2, if_neg c5, e19])
  exact J2 17 0 σ _ _ hP hD hS ls (lv_sub hl [0, 1, 2, 3] rfl) (by omega) (by omega) (by simp only [k_fill])

def k_cw (k : Nat) (t : Nat) (x : Int32) (y : Int32) (σ : me_M) : me_M := let s6 := me_st σ (94 + 2 * k + 1) t x; let s9 := me_st s6 (94 + 2 * k) 2 y; let s14 := me_st s9 (94 + 2 * k) 3 (nI 1); s14
set_option maxRecDepth 100000 in
set_option maxHeartbeats 4000000 in
theorem c_X1_changeWord (l : Launch) (D : va_G) (cy : Nat → ClassId) (ad : Nat → Nat) (xr : va_W) (k : Nat) (t : Nat) (x : Int32) (y : Int32) (σ : me_M) (hk : k < 4) (ht : t < 16) (sz : Nat) : me_Cv l yX1_changeWord wsX1_changeWord ({ frames := 0, cells := 0, slots := 0, locals := 0 }) D (me_T cy) (kk_W cy ad xr) [.ref (ad (94 + 2 * k)), .int (nI t), .int x, .int y] sz σ (k_cw k t x y σ) := by
  refine Met.ofW (cc := cX1_changeWord) (maxL := 4) (ret := none) (by decide) rfl ?_
  intro p e st m args below meth c s₁ B hml hv
  obtain ⟨rfl, hsz, hP, hK, hD0⟩ := hv
  have hx := B.exec
  have hb := B.bytes
  have hr := B.returns
  have hts := atoms_spec (ws := wsX1_changeWord) B.pre
  have hown : st.vm.findClass RX1 = some m.cls := findClass_of_methodNamed B.named
  have hlocks := B.notSynchronized
  have in1 : ∀ w ∈ u_ws RX1 TX1 5, w ∈ wsX1_changeWord := by decide +kernel
  have k9 := hts (.fieldLink RX1 9 "TwinWrites$Frame" "words" "[I") (by decide +kernel)
  have k19 := hts (.fieldLink RX1 19 "TwinWrites$Frame" "stamp" "I") (by decide +kernel)
  have k22 := hts (.fieldLink RX1 22 "TwinWrites$Frame" "dirty" "Z") (by decide +kernel)
  subst hsz
  have hD := hD0.self (sz := st.heap.size)
  have hA : ∀ q : Nat, st.heap.size ≤ q → va_A ((kk_W cy ad xr) σ) st.heap.size q := fun q h => Or.inr h
  have hS : va_S (va_A ((kk_W cy ad xr) σ) st.heap.size) st.heap st.heap [] := va_S.rf
  generalize va_A ((kk_W cy ad xr) σ) st.heap.size = A at hD hA hS ⊢
  have hl := lv_entry ([.ref (ad (94 + 2 * k)), .int (nI t), .int x, .int y]) (n := 4) (Nat.le_of_ble_eq_true rfl)
  rw [lg_entry_eq]
  generalize (lg_sl ([.ref (ad (94 + 2 * k)), .int (nI t), .int x, .int y]) ++ List.replicate (4 - (lg_sl ([.ref (ad (94 + 2 * k)), .int (nI t), .int x, .int y])).length) Slot.unset).toArray = ls at hl ⊢
  have hl : lv_has ls 4 [(0, .ref (ad (94 + 2 * k))), (1, .int (nI t)), (2, .int x), (3, .int y)] := hl
  refine lv_aload_n hx hb dX1_changeWord_0 rfl (lv_at hl 0 rfl) ?_
  refine va_get (D := D) (ci := 1) (v := .ref (ad (94 + 2 * k + 1))) (C := RX1) (T := TX1) (N := 5) hx hb hts in1 hown hK hP (94 + 2 * k) (me_get (by omega) (kk_fr cy ad (by omega) _)) rfl 0 (by decide) k9 (fun _ h9 => h9) rfl dX1_changeWord_1 ?_
  refine lv_iload_n hx hb dX1_changeWord_4 rfl (lv_at hl 1 rfl) ?_
  refine lv_iload_n hx hb dX1_changeWord_5 rfl (lv_at hl 2 rfl) ?_
  refine me_iast hx hb hK hP hD hS (94 + 2 * k + 1) 0 (by omega) (fun f => kk_16 cy ad (by omega) f) rfl t rfl (by omega) (by decide) dX1_changeWord_6 (fun s6 H locs e6 hP hD hS => ?_)
  refine lv_aload_n hx hb dX1_changeWord_7 rfl (lv_at hl 0 rfl) ?_
  refine lv_iload_n hx hb dX1_changeWord_8 rfl (lv_at hl 3 rfl) ?_
  refine me_put (ty := .int) (ci := 1) (C := RX1) (T := TX1) (M := 5) hx hb hts in1 tyX1 tyX1_ok nmX1 hown hK hP hD hS (94 + 2 * k) (by omega) (kk_fr cy ad (by omega) _) rfl 2 (by decide) k19 (fun _ h9 => h9) rfl (by decide +kernel) rfl rfl (Nat.le_of_ble_eq_true rfl) (kk_fr cy ad (by omega) _) dX1_changeWord_9 (fun s9 H locs e9 hP hD hS => ?_)
  refine lv_aload_n hx hb dX1_changeWord_12 rfl (lv_at hl 0 rfl) ?_
  refine lv_iconst (v := nI 1) hx hb dX1_changeWord_13 (by decide) ?_
  refine me_put (ty := .boolean) (ci := 1) (C := RX1) (T := TX1) (M := 5) hx hb hts in1 tyX1 tyX1_ok nmX1 hown hK hP hD hS (94 + 2 * k) (by omega) (kk_fr cy ad (by omega) _) rfl 3 (by decide) k22 (fun _ h9 => h9) rfl (by decide +kernel) rfl rfl (Nat.le_of_ble_eq_true rfl) (kk_fr cy ad (by omega) _) dX1_changeWord_14 (fun s14 H locs e14 hP hD hS => ?_)
  exact me_retv hx hb hr hlocks hK hP hD hS (by simp only [k_cw, e6, e9, e14]) dX1_changeWord_17

def k_fval (k : Nat) (t : Nat) (σ : me_M) : Int32 := if nI t = nI 0 then (σ (94 + 2 * k) 1) else (if nI t = nI 1 then (σ (94 + 2 * k) 2) else (if nI t = nI 2 then (if (σ (94 + 2 * k) 3) = 0 then (nI 0) else (nI 1)) else (σ (94 + 2 * k + 1) (t - 3))))
set_option maxRecDepth 100000 in
set_option maxHeartbeats 4000000 in
theorem c_X1_value (l : Launch) (D : va_G) (cy : Nat → ClassId) (ad : Nat → Nat) (xr : va_W) (k : Nat) (t : Nat) (σ : me_M) (hk : k < 4) (ht : t < 19) (sz : Nat) : me_Ci l yX1_value wsX1_value ({ frames := 0, cells := 0, slots := 0, locals := 0 }) D (me_T cy) (kk_W cy ad xr) [.ref (ad (94 + 2 * k)), .int (nI t)] sz σ (k_fval k t σ, σ) := by
  refine Met.ofW (cc := cX1_value) (maxL := 2) (ret := (some .int)) (by decide) rfl ?_
  intro p e st m args below meth c s₁ B hml hv
  obtain ⟨rfl, hsz, hP, hK, hD0⟩ := hv
  have hx := B.exec
  have hb := B.bytes
  have hr := B.returns
  have hts := atoms_spec (ws := wsX1_value) B.pre
  have hown : st.vm.findClass RX1 = some m.cls := findClass_of_methodNamed B.named
  have hlocks := B.notSynchronized
  have in1 : ∀ w ∈ u_ws RX1 TX1 5, w ∈ wsX1_value := by decide +kernel
  have k9 := hts (.fieldLink RX1 9 "TwinWrites$Frame" "words" "[I") (by decide +kernel)
  have k15 := hts (.fieldLink RX1 15 "TwinWrites$Frame" "page" "I") (by decide +kernel)
  have k19 := hts (.fieldLink RX1 19 "TwinWrites$Frame" "stamp" "I") (by decide +kernel)
  have k22 := hts (.fieldLink RX1 22 "TwinWrites$Frame" "dirty" "Z") (by decide +kernel)
  subst hsz
  have hD := hD0.self (sz := st.heap.size)
  have hA : ∀ q : Nat, st.heap.size ≤ q → va_A ((kk_W cy ad xr) σ) st.heap.size q := fun q h => Or.inr h
  have hS : va_S (va_A ((kk_W cy ad xr) σ) st.heap.size) st.heap st.heap [] := va_S.rf
  generalize va_A ((kk_W cy ad xr) σ) st.heap.size = A at hD hA hS ⊢
  have hl := lv_entry ([.ref (ad (94 + 2 * k)), .int (nI t)]) (n := 2) (Nat.le_of_ble_eq_true rfl)
  rw [lg_entry_eq]
  generalize (lg_sl ([.ref (ad (94 + 2 * k)), .int (nI t)]) ++ List.replicate (2 - (lg_sl ([.ref (ad (94 + 2 * k)), .int (nI t)])).length) Slot.unset).toArray = ls at hl ⊢
  have hl : lv_has ls 2 [(0, .ref (ad (94 + 2 * k))), (1, .int (nI t))] := hl
  refine lv_iload_n hx hb dX1_value_0 rfl (lv_at hl 1 rfl) ?_
  by_cases c1_0 : nI t = nI 0
  ·
    refine me_top c1_0 ?_
    refine lv_tableIn (tgt := 28) hx hb dX1_value_1 (by decide) (by decide) (by rfl) (by decide) ?_
    refine lv_aload_n hx hb dX1_value_28 rfl (lv_at hl 0 rfl) ?_
    refine va_get (D := D) (ci := 1) (v := .int (σ (94 + 2 * k) 1)) (C := RX1) (T := TX1) (N := 5) hx hb hts in1 hown hK hP (94 + 2 * k) (me_get (by omega) (kk_fr cy ad (by omega) _)) rfl 1 (by decide) k15 (fun _ h9 => h9) rfl dX1_value_29 ?_
    exact me_retr hx hb hr rfl hlocks hK hP hD hS (by simp only [k_fval, if_pos c1_0]) dX1_value_32
  by_cases c1_1 : nI t = nI 1
  ·
    refine me_top c1_1 ?_
    refine lv_tableIn (tgt := 33) hx hb dX1_value_1 (by decide) (by decide) (by rfl) (by decide) ?_
    refine lv_aload_n hx hb dX1_value_33 rfl (lv_at hl 0 rfl) ?_
    refine va_get (D := D) (ci := 1) (v := .int (σ (94 + 2 * k) 2)) (C := RX1) (T := TX1) (N := 5) hx hb hts in1 hown hK hP (94 + 2 * k) (me_get (by omega) (kk_fr cy ad (by omega) _)) rfl 2 (by decide) k19 (fun _ h9 => h9) rfl dX1_value_34 ?_
    exact me_retr hx hb hr rfl hlocks hK hP hD hS (by simp only [k_fval, if_neg c1_0, if_pos c1_1]) dX1_value_37
  by_cases c1_2 : nI t = nI 2
  ·
    refine me_top c1_2 ?_
    refine lv_tableIn (tgt := 38) hx hb dX1_value_1 (by decide) (by decide) (by rfl) (by decide) ?_
    refine lv_aload_n hx hb dX1_value_38 rfl (lv_at hl 0 rfl) ?_
    refine va_get (D := D) (ci := 1) (v := .int (σ (94 + 2 * k) 3)) (C := RX1) (T := TX1) (N := 5) hx hb hts in1 hown hK hP (94 + 2 * k) (me_get (by omega) (kk_fr cy ad (by omega) _)) rfl 3 (by decide) k22 (fun _ h9 => h9) rfl dX1_value_39 ?_
    refine lv_if_eq (tgt := 49) hx hb dX1_value_42 (by decide) (fun c42 => ?_) (fun c42 => ?_)
    ·
      refine lv_iconst (v := nI 0) hx hb dX1_value_49 (by decide) ?_
      exact me_retr hx hb hr rfl hlocks hK hP hD hS (by simp only [k_fval, if_neg c1_0, if_neg c1_1, if_pos c1_2, if_pos c42]) dX1_value_50
    ·
      refine lv_iconst (v := nI 1) hx hb dX1_value_45 (by decide) ?_
      refine lv_goto (tgt := 50) hx hb dX1_value_46 (by decide) ?_
      exact me_retr hx hb hr rfl hlocks hK hP hD hS (by simp only [k_fval, if_neg c1_0, if_neg c1_1, if_pos c1_2, if_neg c42]) dX1_value_50
  have c1_o := me_out (x := nI t) (n := 3) (by decide) (by intro j hj; match j, hj with | 0, _ => exact c1_0 | 1, _ => exact c1_1 | 2, _ => exact c1_2 | (j + 3), hj => exact absurd hj (by omega))
  refine lv_tableOut (tgt := 51) hx hb dX1_value_1 (by omega) (by decide) ?_
  have g0 : t ≠ 0 := fun h => c1_0 (by rw [h])
  have g1 : t ≠ 1 := fun h => c1_1 (by rw [h])
  have g2 : t ≠ 2 := fun h => c1_2 (by rw [h])
  refine lv_aload_n hx hb dX1_value_51 rfl (lv_at hl 0 rfl) ?_
  refine va_get (D := D) (ci := 1) (v := .ref (ad (94 + 2 * k + 1))) (C := RX1) (T := TX1) (N := 5) hx hb hts in1 hown hK hP (94 + 2 * k) (me_get (by omega) (kk_fr cy ad (by omega) _)) rfl 0 (by decide) k9 (fun _ h9 => h9) rfl dX1_value_52 ?_
  refine lv_iload_n hx hb dX1_value_55 rfl (lv_at hl 1 rfl) ?_
  refine lv_iconst (v := nI 3) hx hb dX1_value_56 (by decide) ?_
  refine lv_isub hx hb dX1_value_57 ?_
  refine me_top (pk_sub (by omega)) ?_
  refine me_iald hx hb hK hP (94 + 2 * k + 1) 0 (by omega) (fun f => kk_16 cy ad (by omega) f) rfl (t - 3) rfl (by omega) (by decide) dX1_value_58 ?_
  exact me_retr hx hb hr rfl hlocks hK hP hD hS (by simp only [k_fval, if_neg c1_0, if_neg c1_1, if_neg c1_2]) dX1_value_59
