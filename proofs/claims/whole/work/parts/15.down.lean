def k_down_2 : Nat → Nat → me_M → me_M
  | 0, i, s => s
  | n + 1, i, s => if nI 4 ≤ (nI i) then (let s24 := me_st s 0 11 (nI 0); let s29 := me_st s24 0 4 ((-1)); let s34 := me_st s29 0 5 (nI 1); s34) else (let s13 := k_empty i s; k_down_2 n  (i + 1) s13)
def k_down  (σ : me_M) : me_M := k_down_2 5  0 σ
set_option maxRecDepth 100000 in
set_option maxHeartbeats 4000000 in
theorem c_X3_goDown (l : Launch) (D : va_G) (cy : Nat → ClassId) (ad : Nat → Nat) (xr : va_W)  (σ : me_M)  (sz : Nat) : me_Cv l yX3_goDown wsX3_goDown ({ frames := 1, cells := 0, slots := 0, locals := 21 }) D (me_T cy) (kk_W cy ad xr) [.ref (ad 0)] sz σ (k_down  σ) := by
  refine Met.ofW (cc := cX3_goDown) (maxL := 2) (ret := none) (by decide) rfl ?_
  intro p e st m args below meth c s₁ B hml hv
  obtain ⟨rfl, hsz, hP, hK, hD0⟩ := hv
  have hx := B.exec
  have hb := B.bytes
  have hr := B.returns
  have hts := atoms_spec (ws := wsX3_goDown) B.pre
  have hown : st.vm.findClass RX3 = some m.cls := findClass_of_methodNamed B.named
  have hlocks := B.notSynchronized
  have in3 : ∀ w ∈ u_ws RX3 TX3 15, w ∈ wsX3_goDown := by decide +kernel
  have k28 := hts (.fieldLink RX3 28 "TwinWrites" "sectorsLeft" "I") (by decide +kernel)
  have k31 := hts (.fieldLink RX3 31 "TwinWrites" "down" "Z") (by decide +kernel)
  have k46 := hts (.fieldLink RX3 46 "TwinWrites" "frames" "[LTwinWrites$Frame;") (by decide +kernel)
  have k53 := hts (.fieldLink RX3 53 "TwinWrites" "waitingCount" "I") (by decide +kernel)
  subst hsz
  have hD := hD0.self (sz := st.heap.size)
  have hA : ∀ q : Nat, st.heap.size ≤ q → va_A ((kk_W cy ad xr) σ) st.heap.size q := fun q h => Or.inr h
  have hS : va_S (va_A ((kk_W cy ad xr) σ) st.heap.size) st.heap st.heap [] := va_S.rf
  generalize va_A ((kk_W cy ad xr) σ) st.heap.size = A at hD hA hS ⊢
  have hl := lv_entry ([.ref (ad 0)]) (n := 2) (Nat.le_of_ble_eq_true rfl)
  rw [lg_entry_eq]
  generalize (lg_sl ([.ref (ad 0)]) ++ List.replicate (2 - (lg_sl ([.ref (ad 0)])).length) Slot.unset).toArray = ls at hl ⊢
  have hl : lv_has ls 2 [(0, .ref (ad 0))] := hl
  refine lv_iconst (v := nI 0) hx hb dX3_goDown_0 (by decide) ?_
  refine lv_istore_n (lv' := [(1, .int (nI 0)), (0, .ref (ad 0))]) hx hb dX3_goDown_1 rfl hl (by decide) rfl (fun ls hl => ?_)
  have J2 : ∀ (n : Nat) (i : Nat) (s : me_M) (H : Heap) (locs : List Loc) (hP : va_P D vwCl ((kk_W cy ad xr) s) H) (hD : va_D A ((kk_W cy ad xr) s)) (hS : va_S A st.heap H locs) (ls : Array Slot) (hl : lv_has ls 2 [(1, .int (nI i)), (0, .ref (ad 0))]), ∀ (hi : i ≤ 4), ∀ (hn : 5 ≤ i + n), k_down  σ = k_down_2 n  i s → W p l e (headSpec wsX3_goDown ({ frames := 1, cells := 0, slots := 0, locals := 21 })).room st m ([.ref (ad 0)] : List Value).toArray below meth c H locs 0 0 (MQ below (va_Qv (fun σ' => σ' = k_down  σ) (me_B D (me_T cy) A (kk_W cy ad xr)) A) ([.ref (ad 0)] : List Value).toArray st 0 0 A) (F0 m 2 ls []) := by
    intro n
    induction n with
    | zero => intro i s H locs hP hD hS ls hl hi hn hf2; exfalso; omega
    | succ n ih =>
      intro i s H locs hP hD hS ls hl hi hn hf2
      refine lv_iload_n hx hb dX3_goDown_2 rfl (lv_at hl 0 rfl) ?_
      refine lv_iconst (v := nI 4) hx hb dX3_goDown_3 (by decide) ?_
      refine lv_icmp_ge (tgt := 22) hx hb dX3_goDown_4 (by decide) (fun c4 => ?_) (fun c4 => ?_)
      ·
        try have h4 := (nI_leI (by omega) (by omega)).mp c4
        refine lv_aload_n hx hb dX3_goDown_22 rfl (lv_at hl 1 rfl) ?_
        refine lv_iconst (v := nI 0) hx hb dX3_goDown_23 (by decide) ?_
        refine me_put (ty := .int) (ci := 3) (C := RX3) (T := TX3) (M := 15) hx hb hts in3 tyX3 tyX3_ok nmX3 hown hK hP hD hS 0 (by omega) (kk_0 cy ad _) rfl 11 (by decide) k53 (fun _ h9 => h9) rfl (by decide +kernel) rfl rfl (Nat.le_of_ble_eq_true rfl) (kk_0 cy ad _) dX3_goDown_24 (fun s24 H locs e24 hP hD hS => ?_)
        refine lv_aload_n hx hb dX3_goDown_27 rfl (lv_at hl 1 rfl) ?_
        refine lv_iconst (v := (-1)) hx hb dX3_goDown_28 (by decide) ?_
        refine me_put (ty := .int) (ci := 3) (C := RX3) (T := TX3) (M := 15) hx hb hts in3 tyX3 tyX3_ok nmX3 hown hK hP hD hS 0 (by omega) (kk_0 cy ad _) rfl 4 (by decide) k28 (fun _ h9 => h9) rfl (by decide +kernel) rfl rfl (Nat.le_of_ble_eq_true rfl) (kk_0 cy ad _) dX3_goDown_29 (fun s29 H locs e29 hP hD hS => ?_)
        refine lv_aload_n hx hb dX3_goDown_32 rfl (lv_at hl 1 rfl) ?_
        refine lv_iconst (v := nI 1) hx hb dX3_goDown_33 (by decide) ?_
        refine me_put (ty := .boolean) (ci := 3) (C := RX3) (T := TX3) (M := 15) hx hb hts in3 tyX3 tyX3_ok nmX3 hown hK hP hD hS 0 (by omega) (kk_0 cy ad _) rfl 5 (by decide) k31 (fun _ h9 => h9) rfl (by decide +kernel) rfl rfl (Nat.le_of_ble_eq_true rfl) (kk_0 cy ad _) dX3_goDown_34 (fun s34 H locs e34 hP hD hS => ?_)
        exact me_retv hx hb hr hlocks hK hP hD hS (by first | (rw [hf2]; simp only [k_down_2, if_pos c4, e24, e29, e34]; done) | contradiction) dX3_goDown_37
      ·
        try have h4 := (not_congr (nI_leI (by omega) (by omega))).mp c4
        refine lv_aload_n hx hb dX3_goDown_7 rfl (lv_at hl 1 rfl) ?_
        refine va_get (D := D) (ci := 3) (v := .ref (ad 4)) (C := RX3) (T := TX3) (N := 15) hx hb hts in3 hown hK hP 0 (me_get (by omega) (kk_0 cy ad _)) rfl 9 (by decide) k46 (fun _ h9 => h9) rfl dX3_goDown_8 ?_
        refine lv_iload_n hx hb dX3_goDown_11 rfl (lv_at hl 0 rfl) ?_
        refine me_aald (g := fun j => ad (94 + 2 * j)) hx hb hK hP 4 5 (by omega) (fun f => kk_a4 cy ad f) rfl i rfl (by omega) (by decide) dX3_goDown_12 ?_
        refine me_callv (f := k_empty i s) (w := (kk_W cy ad xr)) (σ := s) (As := []) (rest := []) ⟨hx, hb, hml, hown, hts⟩ (fun sz => c_X1_empty l D cy ad xr i s (by omega) sz) (cwV 0 hts gX3_goDown_X1_empty rfl rfl rfl (by decide +kernel) ⟨Nat.le_of_ble_eq_true rfl, Nat.le_of_ble_eq_true rfl⟩) (va_recv hK hP (ci := 1) (q0 := (94 + 2 * i)) rfl (me_get (by omega) (kk_fr cy ad (by omega) _))) hK hP hD hS hA rfl hl.1 rfl (Nat.le_of_ble_eq_true rfl) dX3_goDown_13 ⟨Nat.zero_le _, Nat.zero_le _⟩ (fun s13 H locs e13 hP hD hS => ?_)
        refine lv_iinc (v := nI (i + 1)) (lv' := [(1, .int (nI (i + 1))), (0, .ref (ad 0))]) hx hb dX3_goDown_16 hl (k := 0) rfl (me_inc _) (by decide) rfl (fun ls hl => ?_)
        refine lv_goto (tgt := 2) hx hb dX3_goDown_19 (by decide) ?_
        exact ih (i + 1) s13 _ _ hP hD hS ls (lv_sub hl [0, 1] rfl) (by omega) (by omega) (by rw [hf2]; simp only [k_down_2, if_neg c4, e13])
  exact J2 5 0 σ _ _ hP hD hS ls (lv_sub hl [0, 1] rfl) (by omega) (by omega) (by simp only [k_down])

def k_lose  (σ : me_M) : Int32 × me_M := let s1 := k_down σ; ((-3), s1)
set_option maxRecDepth 100000 in
set_option maxHeartbeats 4000000 in
theorem c_X3_lose (l : Launch) (D : va_G) (cy : Nat → ClassId) (ad : Nat → Nat) (xr : va_W)  (σ : me_M)  (sz : Nat) : me_Ci l yX3_lose wsX3_lose ({ frames := 2, cells := 0, slots := 0, locals := 42 }) D (me_T cy) (kk_W cy ad xr) [.ref (ad 0)] sz σ (k_lose  σ) := by
  refine Met.ofW (cc := cX3_lose) (maxL := 1) (ret := (some .int)) (by decide) rfl ?_
  intro p e st m args below meth c s₁ B hml hv
  obtain ⟨rfl, hsz, hP, hK, hD0⟩ := hv
  have hx := B.exec
  have hb := B.bytes
  have hr := B.returns
  have hts := atoms_spec (ws := wsX3_lose) B.pre
  have hown : st.vm.findClass RX3 = some m.cls := findClass_of_methodNamed B.named
  have hlocks := B.notSynchronized
  subst hsz
  have hD := hD0.self (sz := st.heap.size)
  have hA : ∀ q : Nat, st.heap.size ≤ q → va_A ((kk_W cy ad xr) σ) st.heap.size q := fun q h => Or.inr h
  have hS : va_S (va_A ((kk_W cy ad xr) σ) st.heap.size) st.heap st.heap [] := va_S.rf
  generalize va_A ((kk_W cy ad xr) σ) st.heap.size = A at hD hA hS ⊢
  have hl := lv_entry ([.ref (ad 0)]) (n := 1) (Nat.le_of_ble_eq_true rfl)
  rw [lg_entry_eq]
  generalize (lg_sl ([.ref (ad 0)]) ++ List.replicate (1 - (lg_sl ([.ref (ad 0)])).length) Slot.unset).toArray = ls at hl ⊢
  have hl : lv_has ls 1 [(0, .ref (ad 0))] := hl
  refine lv_aload_n hx hb dX3_lose_0 rfl (lv_at hl 0 rfl) ?_
  refine me_callv (f := k_down σ) (w := (kk_W cy ad xr)) (σ := σ) (As := []) (rest := []) ⟨hx, hb, hml, hown, hts⟩ (fun sz => c_X3_goDown l D cy ad xr  σ  sz) (cwV 0 hts gX3_lose_X3_goDown rfl rfl rfl (by decide +kernel) ⟨Nat.le_of_ble_eq_true rfl, Nat.le_of_ble_eq_true rfl⟩) (va_recv hK hP (ci := 3) (q0 := 0) rfl (me_get (by omega) (kk_0 cy ad _))) hK hP hD hS hA rfl hl.1 rfl (Nat.le_of_ble_eq_true rfl) dX3_lose_1 ⟨Nat.zero_le _, Nat.zero_le _⟩ (fun s1 H locs e1 hP hD hS => ?_)
  refine lv_bipush (v := (-3)) hx hb dX3_lose_4 (by decide) ?_
  exact me_reti hx hb hr rfl hlocks hK hP hD hS (by first | (simp only [k_lose, e1]; done) | contradiction) dX3_lose_6

def k_wp_3 : Nat → Nat → Int32 → Int32 → Nat → Nat → me_M → Int32 × me_M
  | 0, j, x, y, q, i, s => (0, s)
  | n + 1, j, x, y, q, i, s => if nI 4 ≤ (nI i) then ((nI 1, s)) else (let q10 := k_ph s; let r10 := q10.1; let s10 := q10.2; if r10 = 0 then ((nI 0, s10)) else (let s25 := k_put j i x y q s10; k_wp_3 n j x y q (i + 1) s25))
def k_wp (j : Nat) (x : Int32) (y : Int32) (q : Nat) (σ : me_M) : Int32 × me_M := k_wp_3 5 j x y q 0 σ
set_option maxRecDepth 100000 in
set_option maxHeartbeats 4000000 in
theorem c_X3_writePage (l : Launch) (D : va_G) (cy : Nat → ClassId) (ad : Nat → Nat) (xr : va_W) (j : Nat) (x : Int32) (y : Int32) (q : Nat) (σ : me_M) (hj : j < 16) (hq : (6 ≤ q ∧ q < 70 ∧ q % 4 = 3) ∨ (94 ≤ q ∧ q < 102 ∧ q % 2 = 1)) (sz : Nat) : me_Ci l yX3_writePage wsX3_writePage ({ frames := 1, cells := 0, slots := 0, locals := 26 }) D (me_T cy) (kk_W cy ad xr) [.ref (ad 0), .ref (ad (6 + 4 * j)), .int x, .int y, .ref (ad q)] sz σ (k_wp j x y q σ) := by
  refine Met.ofW (cc := cX3_writePage) (maxL := 6) (ret := (some .boolean)) (by decide) rfl ?_
  intro p e st m args below meth c s₁ B hml hv
  obtain ⟨rfl, hsz, hP, hK, hD0⟩ := hv
  have hx := B.exec
  have hb := B.bytes
  have hr := B.returns
  have hts := atoms_spec (ws := wsX3_writePage) B.pre
  have hown : st.vm.findClass RX3 = some m.cls := findClass_of_methodNamed B.named
  have hlocks := B.notSynchronized
  subst hsz
  have hD := hD0.self (sz := st.heap.size)
  have hA : ∀ q : Nat, st.heap.size ≤ q → va_A ((kk_W cy ad xr) σ) st.heap.size q := fun q h => Or.inr h
  have hS : va_S (va_A ((kk_W cy ad xr) σ) st.heap.size) st.heap st.heap [] := va_S.rf
  generalize va_A ((kk_W cy ad xr) σ) st.heap.size = A at hD hA hS ⊢
  have hl := lv_entry ([.ref (ad 0), .ref (ad (6 + 4 * j)), .int x, .int y, .ref (ad q)]) (n := 6) (Nat.le_of_ble_eq_true rfl)
  rw [lg_entry_eq]
  generalize (lg_sl ([.ref (ad 0), .ref (ad (6 + 4 * j)), .int x, .int y, .ref (ad q)]) ++ List.replicate (6 - (lg_sl ([.ref (ad 0), .ref (ad (6 + 4 * j)), .int x, .int y, .ref (ad q)])).length) Slot.unset).toArray = ls at hl ⊢
  have hl : lv_has ls 6 [(0, .ref (ad 0)), (1, .ref (ad (6 + 4 * j))), (2, .int x), (3, .int y), (4, .ref (ad q))] := hl
  refine lv_iconst (v := nI 0) hx hb dX3_writePage_0 (by decide) ?_
  refine lv_istore (lv' := [(5, .int (nI 0)), (0, .ref (ad 0)), (1, .ref (ad (6 + 4 * j))), (2, .int x), (3, .int y), (4, .ref (ad q))]) hx hb dX3_writePage_1 hl (by decide) rfl (fun ls hl => ?_)
  have J3 : ∀ (n : Nat) (i : Nat) (s : me_M) (H : Heap) (locs : List Loc) (hP : va_P D vwCl ((kk_W cy ad xr) s) H) (hD : va_D A ((kk_W cy ad xr) s)) (hS : va_S A st.heap H locs) (ls : Array Slot) (hl : lv_has ls 6 [(5, .int (nI i)), (0, .ref (ad 0)), (1, .ref (ad (6 + 4 * j))), (2, .int x), (3, .int y), (4, .ref (ad q))]), ∀ (hi : i ≤ 4), ∀ (hn : 5 ≤ i + n), k_wp j x y q σ = k_wp_3 n j x y q i s → W p l e (headSpec wsX3_writePage ({ frames := 1, cells := 0, slots := 0, locals := 26 })).room st m ([.ref (ad 0), .ref (ad (6 + 4 * j)), .int x, .int y, .ref (ad q)] : List Value).toArray below meth c H locs 0 0 (MQ below (va_Qi (fun r σ' => (r, σ') = k_wp j x y q σ) (me_B D (me_T cy) A (kk_W cy ad xr)) A) ([.ref (ad 0), .ref (ad (6 + 4 * j)), .int x, .int y, .ref (ad q)] : List Value).toArray st 0 0 A) (F0 m 3 ls []) := by
    intro n
    induction n with
    | zero => intro i s H locs hP hD hS ls hl hi hn hf3; exfalso; omega
    | succ n ih =>
      intro i s H locs hP hD hS ls hl hi hn hf3
      refine lv_iload hx hb dX3_writePage_3 (lv_at hl 0 rfl) ?_
      refine lv_iconst (v := nI 4) hx hb dX3_writePage_5 (by decide) ?_
      refine lv_icmp_ge (tgt := 34) hx hb dX3_writePage_6 (by decide) (fun c6 => ?_) (fun c6 => ?_)
      ·
        try have h6 := (nI_leI (by omega) (by omega)).mp c6
        refine lv_iconst (v := nI 1) hx hb dX3_writePage_34 (by decide) ?_
        exact me_reti hx hb hr rfl hlocks hK hP hD hS (by first | (rw [hf3]; simp only [k_wp_3, if_pos c6]; done) | contradiction) dX3_writePage_35
      ·
        try have h6 := (not_congr (nI_leI (by omega) (by omega))).mp c6
        refine lv_aload_n hx hb dX3_writePage_9 rfl (lv_at hl 1 rfl) ?_
        refine me_calli (f := k_ph s) (w := (kk_W cy ad xr)) (σ := s) (As := []) (rest := []) ⟨hx, hb, hml, hown, hts⟩ (fun sz => c_X3_powerHolds l D cy ad xr  s  sz) (cwV 0 hts gX3_writePage_X3_powerHolds rfl rfl rfl (by decide +kernel) ⟨Nat.le_of_ble_eq_true rfl, Nat.le_of_ble_eq_true rfl⟩) (va_recv hK hP (ci := 3) (q0 := 0) rfl (me_get (by omega) (kk_0 cy ad _))) hK hP hD hS hA rfl hl.1 rfl (Nat.le_of_ble_eq_true rfl) dX3_writePage_10 ⟨Nat.zero_le _, Nat.zero_le _⟩ (fun r10 s10 H locs e10 hP hD hS => ?_)
        refine lv_if_ne (tgt := 18) hx hb dX3_writePage_13 (by decide) (fun c13 => ?_) (fun c13 => ?_)
        ·
          refine lv_aload_n hx hb dX3_writePage_18 rfl (lv_at hl 2 rfl) ?_
          refine lv_iload hx hb dX3_writePage_19 (lv_at hl 0 rfl) ?_
          refine lv_iload_n hx hb dX3_writePage_21 rfl (lv_at hl 3 rfl) ?_
          refine lv_iload_n hx hb dX3_writePage_22 rfl (lv_at hl 4 rfl) ?_
          refine lv_aload hx hb dX3_writePage_23 (lv_at hl 5 rfl) ?_
          refine me_callv (f := k_put j i x y q s10) (w := (kk_W cy ad xr)) (σ := s10) (As := [.int (nI i), .int x, .int y, .ref (ad q)]) (rest := []) ⟨hx, hb, hml, hown, hts⟩ (fun sz => c_X2_putSector l D cy ad xr j i x y q s10 (by omega) (by omega) (by omega) sz) (cwV 4 hts gX3_writePage_X2_putSector rfl rfl rfl (by decide +kernel) ⟨Nat.le_of_ble_eq_true rfl, Nat.le_of_ble_eq_true rfl⟩) (va_recv hK hP (ci := 2) (q0 := (6 + 4 * j)) rfl (me_get (by omega) (kk_pl cy ad (by omega) _))) hK hP hD hS hA rfl hl.1 rfl (Nat.le_of_ble_eq_true rfl) dX3_writePage_25 ⟨Nat.zero_le _, Nat.zero_le _⟩ (fun s25 H locs e25 hP hD hS => ?_)
          refine lv_iinc (v := nI (i + 1)) (lv' := [(5, .int (nI (i + 1))), (0, .ref (ad 0)), (1, .ref (ad (6 + 4 * j))), (2, .int x), (3, .int y), (4, .ref (ad q))]) hx hb dX3_writePage_28 hl (k := 0) rfl (me_inc _) (by decide) rfl (fun ls hl => ?_)
          refine lv_goto (tgt := 3) hx hb dX3_writePage_31 (by decide) ?_
          exact ih (i + 1) s25 _ _ hP hD hS ls (lv_sub hl [0, 1, 2, 3, 4, 5] rfl) (by omega) (by omega) (by rw [hf3]; simp only [k_wp_3, if_neg c6, e10, if_neg c13, e25])
        ·
          refine lv_iconst (v := nI 0) hx hb dX3_writePage_16 (by decide) ?_
          exact me_reti hx hb hr rfl hlocks hK hP hD hS (by first | (rw [hf3]; simp only [k_wp_3, if_neg c6, e10, if_pos c13]; done) | contradiction) dX3_writePage_17
  exact J3 5 0 σ _ _ hP hD hS ls (lv_sub hl [0, 1, 2, 3, 4, 5] rfl) (by omega) (by omega) (by simp only [k_wp])

def k_lw_14 : Nat → Nat → Nat → Nat → me_M → Int32 × me_M
  | 0, w, u, i, s => (0, s)
  | n + 1, w, u, i, s => if nI u ≤ (nI i) then (let s62 := me_st s 0 11 (nI 0); (nI w, s62)) else (let q20 := k_ph s; let r20 := q20.1; let s20 := q20.2; if r20 = 0 then (((-3), s20)) else (let s51 := k_copy (70 + 2 * (i % 12)) (70 + 2 * (i % 12) + 1) s20; k_lw_14 n  w u (i + 1) s51))
def k_lw  (σ : me_M) : Int32 × me_M := k_lw_14 ((σ 0 11).toNatClampNeg + 1)  ((σ 0 11).toNatClampNeg) ((σ 0 12).toNatClampNeg) (((σ 0 12).toNatClampNeg) - ((σ 0 11).toNatClampNeg)) σ
set_option maxRecDepth 100000 in
set_option maxHeartbeats 4000000 in
theorem c_X3_logWaiting (l : Launch) (D : va_G) (cy : Nat → ClassId) (ad : Nat → Nat) (xr : va_W)  (σ : me_M) (hI : k_I σ) (sz : Nat) : me_Ci l yX3_logWaiting wsX3_logWaiting ({ frames := 2, cells := 0, slots := 0, locals := 45 }) D (me_T cy) (kk_W cy ad xr) [.ref (ad 0)] sz σ (k_lw  σ) := by
  refine Met.ofW (cc := cX3_logWaiting) (maxL := 5) (ret := (some .int)) (by decide) rfl ?_
  intro p e st m args below meth c s₁ B hml hv
  obtain ⟨rfl, hsz, hP, hK, hD0⟩ := hv
  have hx := B.exec
  have hb := B.bytes
  have hr := B.returns
  have hts := atoms_spec (ws := wsX3_logWaiting) B.pre
  have hown : st.vm.findClass RX3 = some m.cls := findClass_of_methodNamed B.named
  have hlocks := B.notSynchronized
  have in3 : ∀ w ∈ u_ws RX3 TX3 15, w ∈ wsX3_logWaiting := by decide +kernel
  have k20 := hts (.fieldLink RX3 20 "TwinWrites" "log" "[LTwinWrites$Change;") (by decide +kernel)
  have k50 := hts (.fieldLink RX3 50 "TwinWrites" "waiting" "[LTwinWrites$Change;") (by decide +kernel)
  have k53 := hts (.fieldLink RX3 53 "TwinWrites" "waitingCount" "I") (by decide +kernel)
  have k56 := hts (.fieldLink RX3 56 "TwinWrites" "nextNumber" "I") (by decide +kernel)
  subst hsz
  have hD := hD0.self (sz := st.heap.size)
  have hA : ∀ q : Nat, st.heap.size ≤ q → va_A ((kk_W cy ad xr) σ) st.heap.size q := fun q h => Or.inr h
  have hS : va_S (va_A ((kk_W cy ad xr) σ) st.heap.size) st.heap st.heap [] := va_S.rf
  generalize va_A ((kk_W cy ad xr) σ) st.heap.size = A at hD hA hS ⊢
  have hl := lv_entry ([.ref (ad 0)]) (n := 5) (Nat.le_of_ble_eq_true rfl)
  rw [lg_entry_eq]
  generalize (lg_sl ([.ref (ad 0)]) ++ List.replicate (5 - (lg_sl ([.ref (ad 0)])).length) Slot.unset).toArray = ls at hl ⊢
  have hl : lv_has ls 5 [(0, .ref (ad 0))] := hl
  refine lv_aload_n hx hb dX3_logWaiting_0 rfl (lv_at hl 0 rfl) ?_
  refine va_get (D := D) (ci := 3) (v := .int (σ 0 11)) (C := RX3) (T := TX3) (N := 15) hx hb hts in3 hown hK hP 0 (me_get (by omega) (kk_0 cy ad _)) rfl 11 (by decide) k53 (fun _ h9 => h9) rfl dX3_logWaiting_1 ?_
  have b1 := me_inb hI.2.2.1
  refine me_top (me_ine hI.2.2.1) ?_
  refine lv_istore_n (lv' := [(1, .int (nI ((σ 0 11).toNatClampNeg))), (0, .ref (ad 0))]) hx hb dX3_logWaiting_4 rfl hl (by decide) rfl (fun ls hl => ?_)
  refine lv_aload_n hx hb dX3_logWaiting_5 rfl (lv_at hl 1 rfl) ?_
  refine va_get (D := D) (ci := 3) (v := .int (σ 0 12)) (C := RX3) (T := TX3) (N := 15) hx hb hts in3 hown hK hP 0 (me_get (by omega) (kk_0 cy ad _)) rfl 12 (by decide) k56 (fun _ h9 => h9) rfl dX3_logWaiting_6 ?_
  have b6 := me_inb hI.2.2.2.1
  have b7 := hI.2.2.2.2.1
  refine me_top (me_ine hI.2.2.2.1) ?_
  refine lv_istore_n (lv' := [(2, .int (nI ((σ 0 12).toNatClampNeg))), (1, .int (nI ((σ 0 11).toNatClampNeg))), (0, .ref (ad 0))]) hx hb dX3_logWaiting_9 rfl hl (by decide) rfl (fun ls hl => ?_)
  refine lv_iload_n hx hb dX3_logWaiting_10 rfl (lv_at hl 0 rfl) ?_
  refine lv_iload_n hx hb dX3_logWaiting_11 rfl (lv_at hl 1 rfl) ?_
  refine lv_isub hx hb dX3_logWaiting_12 ?_
  refine me_top (pk_sub (by omega)) ?_
  refine lv_istore_n (lv' := [(3, .int (nI (((σ 0 12).toNatClampNeg) - ((σ 0 11).toNatClampNeg)))), (2, .int (nI ((σ 0 12).toNatClampNeg))), (1, .int (nI ((σ 0 11).toNatClampNeg))), (0, .ref (ad 0))]) hx hb dX3_logWaiting_13 rfl hl (by decide) rfl (fun ls hl => ?_)
  have J14 : ∀ (n : Nat) (w : Nat) (u : Nat) (i : Nat) (s : me_M) (H : Heap) (locs : List Loc) (hP : va_P D vwCl ((kk_W cy ad xr) s) H) (hD : va_D A ((kk_W cy ad xr) s)) (hS : va_S A st.heap H locs) (ls : Array Slot) (hl : lv_has ls 5 [(3, .int (nI i)), (2, .int (nI u)), (1, .int (nI w)), (0, .ref (ad 0))]), ∀ (hw : w < 100000), ∀ (hu : u < 100000), ∀ (hi : i ≤ u), ∀ (hn : u + 1 ≤ i + n), k_lw  σ = k_lw_14 n  w u i s → W p l e (headSpec wsX3_logWaiting ({ frames := 2, cells := 0, slots := 0, locals := 45 })).room st m ([.ref (ad 0)] : List Value).toArray below meth c H locs 0 0 (MQ below (va_Qi (fun r σ' => (r, σ') = k_lw  σ) (me_B D (me_T cy) A (kk_W cy ad xr)) A) ([.ref (ad 0)] : List Value).toArray st 0 0 A) (F0 m 14 ls []) := by
    intro n
    induction n with
    | zero => intro w u i s H locs hP hD hS ls hl hw hu hi hn hf14; exfalso; omega
    | succ n ih =>
      intro w u i s H locs hP hD hS ls hl hw hu hi hn hf14
      refine lv_iload_n hx hb dX3_logWaiting_14 rfl (lv_at hl 0 rfl) ?_
      refine lv_iload_n hx hb dX3_logWaiting_15 rfl (lv_at hl 1 rfl) ?_
      refine lv_icmp_ge (tgt := 60) hx hb dX3_logWaiting_16 (by decide) (fun c16 => ?_) (fun c16 => ?_)
      ·
        try have h16 := (nI_leI (by omega) (by omega)).mp c16
        refine lv_aload_n hx hb dX3_logWaiting_60 rfl (lv_at hl 3 rfl) ?_
        refine lv_iconst (v := nI 0) hx hb dX3_logWaiting_61 (by decide) ?_
        refine me_put (ty := .int) (ci := 3) (C := RX3) (T := TX3) (M := 15) hx hb hts in3 tyX3 tyX3_ok nmX3 hown hK hP hD hS 0 (by omega) (kk_0 cy ad _) rfl 11 (by decide) k53 (fun _ h9 => h9) rfl (by decide +kernel) rfl rfl (Nat.le_of_ble_eq_true rfl) (kk_0 cy ad _) dX3_logWaiting_62 (fun s62 H locs e62 hP hD hS => ?_)
        refine lv_iload_n hx hb dX3_logWaiting_65 rfl (lv_at hl 2 rfl) ?_
        exact me_reti hx hb hr rfl hlocks hK hP hD hS (by first | (rw [hf14]; simp only [k_lw_14, if_pos c16, e62]; done) | contradiction) dX3_logWaiting_66
      ·
        try have h16 := (not_congr (nI_leI (by omega) (by omega))).mp c16
        refine lv_aload_n hx hb dX3_logWaiting_19 rfl (lv_at hl 3 rfl) ?_
        refine me_calli (f := k_ph s) (w := (kk_W cy ad xr)) (σ := s) (As := []) (rest := []) ⟨hx, hb, hml, hown, hts⟩ (fun sz => c_X3_powerHolds l D cy ad xr  s  sz) (cwV 0 hts gX3_logWaiting_X3_powerHolds rfl rfl rfl (by decide +kernel) ⟨Nat.le_of_ble_eq_true rfl, Nat.le_of_ble_eq_true rfl⟩) (va_recv hK hP (ci := 3) (q0 := 0) rfl (me_get (by omega) (kk_0 cy ad _))) hK hP hD hS hA rfl hl.1 rfl (Nat.le_of_ble_eq_true rfl) dX3_logWaiting_20 ⟨Nat.zero_le _, Nat.zero_le _⟩ (fun r20 s20 H locs e20 hP hD hS => ?_)
        refine lv_if_ne (tgt := 29) hx hb dX3_logWaiting_23 (by decide) (fun c23 => ?_) (fun c23 => ?_)
        ·
          refine lv_iload_n hx hb dX3_logWaiting_29 rfl (lv_at hl 0 rfl) ?_
          refine lv_bipush (v := nI 12) hx hb dX3_logWaiting_30 (by decide) ?_
          refine me_calls (As := [.int (nI i), .int (nI 12)]) (rest := []) ⟨hx, hb, hml, hown, hts⟩ (c_J9_floorMod_7cf53 l (nI i) (nI 12) (by decide)) (va_cwS 2 hts gX3_logWaiting_J9_floorMod_7cf53 rfl rfl rfl (by decide +kernel) ⟨Nat.le_of_ble_eq_true rfl, Nat.le_of_ble_eq_true rfl⟩) rfl hl.1 rfl (Nat.le_of_ble_eq_true rfl) dX3_logWaiting_32 ⟨Nat.zero_le _, Nat.zero_le _⟩ ?_
          refine me_top (pu_fm (by omega)) ?_
          refine lv_istore (lv' := [(4, .int (nI (i % 12))), (3, .int (nI i)), (2, .int (nI u)), (1, .int (nI w)), (0, .ref (ad 0))]) hx hb dX3_logWaiting_35 hl (by decide) rfl (fun ls hl => ?_)
          refine lv_aload_n hx hb dX3_logWaiting_37 rfl (lv_at hl 4 rfl) ?_
          refine va_get (D := D) (ci := 3) (v := .ref (ad 3)) (C := RX3) (T := TX3) (N := 15) hx hb hts in3 hown hK hP 0 (me_get (by omega) (kk_0 cy ad _)) rfl 2 (by decide) k20 (fun _ h9 => h9) rfl dX3_logWaiting_38 ?_
          refine lv_iload hx hb dX3_logWaiting_41 (lv_at hl 0 rfl) ?_
          refine me_aald (g := fun j => ad (70 + 2 * j)) hx hb hK hP 3 4 (by omega) (fun f => kk_a3 cy ad f) rfl (i % 12) rfl (by omega) (by decide) dX3_logWaiting_43 ?_
          refine lv_aload_n hx hb dX3_logWaiting_44 rfl (lv_at hl 4 rfl) ?_
          refine va_get (D := D) (ci := 3) (v := .ref (ad 5)) (C := RX3) (T := TX3) (N := 15) hx hb hts in3 hown hK hP 0 (me_get (by omega) (kk_0 cy ad _)) rfl 10 (by decide) k50 (fun _ h9 => h9) rfl dX3_logWaiting_45 ?_
          refine lv_iload hx hb dX3_logWaiting_48 (lv_at hl 0 rfl) ?_
          refine me_aald (g := fun j => ad (70 + 2 * j + 1)) hx hb hK hP 5 4 (by omega) (fun f => kk_a5 cy ad f) rfl (i % 12) rfl (by omega) (by decide) dX3_logWaiting_50 ?_
          refine me_callv (f := k_copy (70 + 2 * (i % 12)) (70 + 2 * (i % 12) + 1) s20) (w := (kk_W cy ad xr)) (σ := s20) (As := [.ref (ad (70 + 2 * (i % 12) + 1))]) (rest := []) ⟨hx, hb, hml, hown, hts⟩ (fun sz => c_X0_copy l D cy ad xr (70 + 2 * (i % 12)) (70 + 2 * (i % 12) + 1) s20 (by omega) (by omega) sz) (cwV 1 hts gX3_logWaiting_X0_copy rfl rfl rfl (by decide +kernel) ⟨Nat.le_of_ble_eq_true rfl, Nat.le_of_ble_eq_true rfl⟩) (va_recv hK hP (ci := 0) (q0 := (70 + 2 * (i % 12))) rfl (me_get (by omega) (kk_ch cy ad (by omega) _))) hK hP hD hS hA rfl hl.1 rfl (Nat.le_of_ble_eq_true rfl) dX3_logWaiting_51 ⟨Nat.zero_le _, Nat.zero_le _⟩ (fun s51 H locs e51 hP hD hS => ?_)
          refine lv_iinc (v := nI (i + 1)) (lv' := [(3, .int (nI (i + 1))), (4, .int (nI (i % 12))), (2, .int (nI u)), (1, .int (nI w)), (0, .ref (ad 0))]) hx hb dX3_logWaiting_54 hl (k := 1) rfl (me_inc _) (by decide) rfl (fun ls hl => ?_)
          refine lv_goto (tgt := 14) hx hb dX3_logWaiting_57 (by decide) ?_
          exact ih w u (i + 1) s51 _ _ hP hD hS ls (lv_sub hl [0, 2, 3, 4] rfl) (by omega) (by omega) (by omega) (by omega) (by rw [hf14]; simp only [k_lw_14, if_neg c16, e20, if_neg c23, e51])
        ·
          refine lv_bipush (v := (-3)) hx hb dX3_logWaiting_26 (by decide) ?_
          exact me_reti hx hb hr rfl hlocks hK hP hD hS (by first | (rw [hf14]; simp only [k_lw_14, if_neg c16, e20, if_pos c23]; done) | contradiction) dX3_logWaiting_28
  exact J14 ((σ 0 11).toNatClampNeg + 1) ((σ 0 11).toNatClampNeg) ((σ 0 12).toNatClampNeg) (((σ 0 12).toNatClampNeg) - ((σ 0 11).toNatClampNeg)) σ _ _ hP hD hS ls (lv_sub hl [0, 1, 2, 3] rfl) (by omega) (by omega) (by omega) (by omega) (by simp only [k_lw])
