def k_fo_2 : Nat → Int32 → Nat → me_M → Int32
  | 0, x, i, s => 0
  | n + 1, x, i, s => if nI 4 ≤ (nI i) then (((-1))) else (if (s (94 + 2 * i) 1) = x then ((nI i)) else (k_fo_2 n x (i + 1) s))
def k_fo (x : Int32) (σ : me_M) : Int32 := k_fo_2 5 x 0 σ
set_option maxRecDepth 100000 in
set_option maxHeartbeats 4000000 in
theorem c_X3_frameOf (l : Launch) (D : va_G) (cy : Nat → ClassId) (ad : Nat → Nat) (xr : va_W) (x : Int32) (σ : me_M)  (sz : Nat) : me_Cf l yX3_frameOf wsX3_frameOf ({ frames := 0, cells := 0, slots := 0, locals := 0 }) D (me_T cy) (kk_W cy ad xr) [.ref (ad 0), .int x] sz σ ad (-1) (k_fo x σ, σ) := by
  refine Met.ofW (cc := cX3_frameOf) (maxL := 3) (ret := (some (.object "TwinWrites$Frame"))) (by decide) rfl ?_
  intro p e st m args below meth c s₁ B hml hv
  obtain ⟨rfl, hsz, hP, hK, hD0⟩ := hv
  have hx := B.exec
  have hb := B.bytes
  have hr := B.returns
  have hts := atoms_spec (ws := wsX3_frameOf) B.pre
  have hown : st.vm.findClass RX3 = some m.cls := findClass_of_methodNamed B.named
  have hlocks := B.notSynchronized
  have in1 : ∀ w ∈ u_ws RX1 TX1 5, w ∈ wsX3_frameOf := by decide +kernel
  have in3 : ∀ w ∈ u_ws RX3 TX3 15, w ∈ wsX3_frameOf := by decide +kernel
  have k46 := hts (.fieldLink RX3 46 "TwinWrites" "frames" "[LTwinWrites$Frame;") (by decide +kernel)
  have k178 := hts (.fieldLink RX3 178 "TwinWrites$Frame" "page" "I") (by decide +kernel)
  subst hsz
  have hD := hD0.self (sz := st.heap.size)
  have hA : ∀ q : Nat, st.heap.size ≤ q → va_A ((kk_W cy ad xr) σ) st.heap.size q := fun q h => Or.inr h
  have hS : va_S (va_A ((kk_W cy ad xr) σ) st.heap.size) st.heap st.heap [] := va_S.rf
  generalize va_A ((kk_W cy ad xr) σ) st.heap.size = A at hD hA hS ⊢
  have hl := lv_entry ([.ref (ad 0), .int x]) (n := 3) (Nat.le_of_ble_eq_true rfl)
  rw [lg_entry_eq]
  generalize (lg_sl ([.ref (ad 0), .int x]) ++ List.replicate (3 - (lg_sl ([.ref (ad 0), .int x])).length) Slot.unset).toArray = ls at hl ⊢
  have hl : lv_has ls 3 [(0, .ref (ad 0)), (1, .int x)] := hl
  refine lv_iconst (v := nI 0) hx hb dX3_frameOf_0 (by decide) ?_
  refine lv_istore_n (lv' := [(2, .int (nI 0)), (0, .ref (ad 0)), (1, .int x)]) hx hb dX3_frameOf_1 rfl hl (by decide) rfl (fun ls hl => ?_)
  have J2 : ∀ (n : Nat) (i : Nat) (H : Heap) (locs : List Loc) (hP : va_P D vwCl ((kk_W cy ad xr) σ) H) (hD : va_D A ((kk_W cy ad xr) σ)) (hS : va_S A st.heap H locs) (ls : Array Slot) (hl : lv_has ls 3 [(2, .int (nI i)), (0, .ref (ad 0)), (1, .int x)]), ∀ (hi : i ≤ 4), ∀ (hn : 5 ≤ i + n), k_fo x σ = k_fo_2 n x i σ → W p l e (headSpec wsX3_frameOf ({ frames := 0, cells := 0, slots := 0, locals := 0 })).room st m ([.ref (ad 0), .int x] : List Value).toArray below meth c H locs 0 0 (MQ below (va_Qq (me_pf ad (-1) (k_fo x σ, σ)) (me_B D (me_T cy) A (kk_W cy ad xr)) A) ([.ref (ad 0), .int x] : List Value).toArray st 0 0 A) (F0 m 2 ls []) := by
    intro n
    induction n with
    | zero => intro i H locs hP hD hS ls hl hi hn hf2; exfalso; omega
    | succ n ih =>
      intro i H locs hP hD hS ls hl hi hn hf2
      refine lv_iload_n hx hb dX3_frameOf_2 rfl (lv_at hl 0 rfl) ?_
      refine lv_iconst (v := nI 4) hx hb dX3_frameOf_3 (by decide) ?_
      refine lv_icmp_ge (tgt := 33) hx hb dX3_frameOf_4 (by decide) (fun c4 => ?_) (fun c4 => ?_)
      ·
        try have h4 := (nI_leI (by omega) (by omega)).mp c4
        refine lv_null hx hb dX3_frameOf_33 ?_
        exact me_retn hx hb hr hlocks hK hP hD hS (by rw [Prod.mk.injEq]; exact ⟨by first | (rw [hf2]; simp only [k_fo_2, if_pos c4]; done) | contradiction, rfl⟩) dX3_frameOf_34
      ·
        try have h4 := (not_congr (nI_leI (by omega) (by omega))).mp c4
        refine lv_aload_n hx hb dX3_frameOf_7 rfl (lv_at hl 1 rfl) ?_
        refine va_get (D := D) (ci := 3) (v := .ref (ad 4)) (C := RX3) (T := TX3) (N := 15) hx hb hts in3 hown hK hP 0 (me_get (by omega) (kk_0 cy ad _)) rfl 9 (by decide) k46 (fun _ h9 => h9) rfl dX3_frameOf_8 ?_
        refine lv_iload_n hx hb dX3_frameOf_11 rfl (lv_at hl 0 rfl) ?_
        refine me_aald (g := fun j => ad (94 + 2 * j)) hx hb hK hP 4 5 (by omega) (fun f => kk_a4 cy ad f) rfl i rfl (by omega) (by decide) dX3_frameOf_12 ?_
        refine va_get (D := D) (ci := 1) (v := .int (σ (94 + 2 * i) 1)) (C := RX1) (T := TX1) (N := 5) hx hb hts in1 hown hK hP (94 + 2 * i) (me_get (by omega) (kk_fr cy ad (by omega) _)) rfl 1 (by decide) k178 (fun _ h9 => h9) rfl dX3_frameOf_13 ?_
        refine lv_iload_n hx hb dX3_frameOf_16 rfl (lv_at hl 2 rfl) ?_
        refine lv_icmp_ne (tgt := 27) hx hb dX3_frameOf_17 (by decide) (fun c17 => ?_) (fun c17 => ?_)
        ·
          refine lv_iinc (v := nI (i + 1)) (lv' := [(2, .int (nI (i + 1))), (0, .ref (ad 0)), (1, .int x)]) hx hb dX3_frameOf_27 hl (k := 0) rfl (me_inc _) (by decide) rfl (fun ls hl => ?_)
          refine lv_goto (tgt := 2) hx hb dX3_frameOf_30 (by decide) ?_
          exact ih (i + 1) _ _ hP hD hS ls (lv_sub hl [0, 1, 2] rfl) (by omega) (by omega) (by rw [hf2]; simp only [k_fo_2, if_neg c4, if_neg c17])
        ·
          refine lv_aload_n hx hb dX3_frameOf_20 rfl (lv_at hl 1 rfl) ?_
          refine va_get (D := D) (ci := 3) (v := .ref (ad 4)) (C := RX3) (T := TX3) (N := 15) hx hb hts in3 hown hK hP 0 (me_get (by omega) (kk_0 cy ad _)) rfl 9 (by decide) k46 (fun _ h9 => h9) rfl dX3_frameOf_21 ?_
          refine lv_iload_n hx hb dX3_frameOf_24 rfl (lv_at hl 0 rfl) ?_
          refine me_aald (g := fun j => ad (94 + 2 * j)) hx hb hK hP 4 5 (by omega) (fun f => kk_a4 cy ad f) rfl i rfl (by omega) (by decide) dX3_frameOf_25 ?_
          exact me_retk (x := nI i) hx hb hr hlocks hK hP hD hS (vp_in_nI (by omega) (by decide)) (nI_clamp (by omega)) (by decide) (by rw [Prod.mk.injEq]; exact ⟨by first | (rw [hf2]; simp only [k_fo_2, if_neg c4, if_pos c17]; done) | contradiction, rfl⟩) dX3_frameOf_26
  exact J2 5 0 _ _ hP hD hS ls (lv_sub hl [0, 1, 2] rfl) (by omega) (by omega) (by simp only [k_fo])

def k_ff_4 : Nat → Nat → Nat → me_M → Int32
  | 0, v, i, s => 0
  | n + 1, v, i, s => if nI 4 ≤ (nI i) then (nI v) else (if s (94 + 2 * v) 4 ≤ (s (94 + 2 * i) 4) then (k_ff_4 n  v (i + 1) s) else (k_ff_4 n  i (i + 1) s))
def k_ff  (σ : me_M) : Int32 := k_ff_4 4  0 1 σ
set_option maxRecDepth 100000 in
set_option maxHeartbeats 4000000 in
theorem c_X3_frameToFill (l : Launch) (D : va_G) (cy : Nat → ClassId) (ad : Nat → Nat) (xr : va_W)  (σ : me_M)  (sz : Nat) : me_Ci l yX3_frameToFill wsX3_frameToFill ({ frames := 0, cells := 0, slots := 0, locals := 0 }) D (me_T cy) (kk_W cy ad xr) [.ref (ad 0)] sz σ (k_ff  σ, σ) := by
  refine Met.ofW (cc := cX3_frameToFill) (maxL := 3) (ret := (some .int)) (by decide) rfl ?_
  intro p e st m args below meth c s₁ B hml hv
  obtain ⟨rfl, hsz, hP, hK, hD0⟩ := hv
  have hx := B.exec
  have hb := B.bytes
  have hr := B.returns
  have hts := atoms_spec (ws := wsX3_frameToFill) B.pre
  have hown : st.vm.findClass RX3 = some m.cls := findClass_of_methodNamed B.named
  have hlocks := B.notSynchronized
  have in1 : ∀ w ∈ u_ws RX1 TX1 5, w ∈ wsX3_frameToFill := by decide +kernel
  have in3 : ∀ w ∈ u_ws RX3 TX3 15, w ∈ wsX3_frameToFill := by decide +kernel
  have k46 := hts (.fieldLink RX3 46 "TwinWrites" "frames" "[LTwinWrites$Frame;") (by decide +kernel)
  have k204 := hts (.fieldLink RX3 204 "TwinWrites$Frame" "asked" "I") (by decide +kernel)
  subst hsz
  have hD := hD0.self (sz := st.heap.size)
  have hA : ∀ q : Nat, st.heap.size ≤ q → va_A ((kk_W cy ad xr) σ) st.heap.size q := fun q h => Or.inr h
  have hS : va_S (va_A ((kk_W cy ad xr) σ) st.heap.size) st.heap st.heap [] := va_S.rf
  generalize va_A ((kk_W cy ad xr) σ) st.heap.size = A at hD hA hS ⊢
  have hl := lv_entry ([.ref (ad 0)]) (n := 3) (Nat.le_of_ble_eq_true rfl)
  rw [lg_entry_eq]
  generalize (lg_sl ([.ref (ad 0)]) ++ List.replicate (3 - (lg_sl ([.ref (ad 0)])).length) Slot.unset).toArray = ls at hl ⊢
  have hl : lv_has ls 3 [(0, .ref (ad 0))] := hl
  refine lv_iconst (v := nI 0) hx hb dX3_frameToFill_0 (by decide) ?_
  refine lv_istore_n (lv' := [(1, .int (nI 0)), (0, .ref (ad 0))]) hx hb dX3_frameToFill_1 rfl hl (by decide) rfl (fun ls hl => ?_)
  refine lv_iconst (v := nI 1) hx hb dX3_frameToFill_2 (by decide) ?_
  refine lv_istore_n (lv' := [(2, .int (nI 1)), (1, .int (nI 0)), (0, .ref (ad 0))]) hx hb dX3_frameToFill_3 rfl hl (by decide) rfl (fun ls hl => ?_)
  have J4 : ∀ (n : Nat) (v : Nat) (i : Nat) (H : Heap) (locs : List Loc) (hP : va_P D vwCl ((kk_W cy ad xr) σ) H) (hD : va_D A ((kk_W cy ad xr) σ)) (hS : va_S A st.heap H locs) (ls : Array Slot) (hl : lv_has ls 3 [(2, .int (nI i)), (1, .int (nI v)), (0, .ref (ad 0))]), ∀ (hv : v < 4), ∀ (hi : 1 ≤ i ∧ i ≤ 4), ∀ (hn : 5 ≤ i + n), k_ff  σ = k_ff_4 n  v i σ → W p l e (headSpec wsX3_frameToFill ({ frames := 0, cells := 0, slots := 0, locals := 0 })).room st m ([.ref (ad 0)] : List Value).toArray below meth c H locs 0 0 (MQ below (va_Qi (fun r σ' => (r, σ') = (k_ff  σ, σ)) (me_B D (me_T cy) A (kk_W cy ad xr)) A) ([.ref (ad 0)] : List Value).toArray st 0 0 A) (F0 m 4 ls []) := by
    intro n
    induction n with
    | zero => intro v i H locs hP hD hS ls hl hv hi hn hf4; exfalso; omega
    | succ n ih =>
      intro v i H locs hP hD hS ls hl hv hi hn hf4
      refine lv_iload_n hx hb dX3_frameToFill_4 rfl (lv_at hl 0 rfl) ?_
      refine lv_iconst (v := nI 4) hx hb dX3_frameToFill_5 (by decide) ?_
      refine lv_icmp_ge (tgt := 38) hx hb dX3_frameToFill_6 (by decide) (fun c6 => ?_) (fun c6 => ?_)
      ·
        try have h6 := (nI_leI (by omega) (by omega)).mp c6
        refine lv_iload_n hx hb dX3_frameToFill_38 rfl (lv_at hl 1 rfl) ?_
        exact me_retr hx hb hr rfl hlocks hK hP hD hS (by first | (rw [hf4]; simp only [k_ff_4, if_pos c6]; done) | contradiction) dX3_frameToFill_39
      ·
        try have h6 := (not_congr (nI_leI (by omega) (by omega))).mp c6
        refine lv_aload_n hx hb dX3_frameToFill_9 rfl (lv_at hl 2 rfl) ?_
        refine va_get (D := D) (ci := 3) (v := .ref (ad 4)) (C := RX3) (T := TX3) (N := 15) hx hb hts in3 hown hK hP 0 (me_get (by omega) (kk_0 cy ad _)) rfl 9 (by decide) k46 (fun _ h9 => h9) rfl dX3_frameToFill_10 ?_
        refine lv_iload_n hx hb dX3_frameToFill_13 rfl (lv_at hl 0 rfl) ?_
        refine me_aald (g := fun j => ad (94 + 2 * j)) hx hb hK hP 4 5 (by omega) (fun f => kk_a4 cy ad f) rfl i rfl (by omega) (by decide) dX3_frameToFill_14 ?_
        refine va_get (D := D) (ci := 1) (v := .int (σ (94 + 2 * i) 4)) (C := RX1) (T := TX1) (N := 5) hx hb hts in1 hown hK hP (94 + 2 * i) (me_get (by omega) (kk_fr cy ad (by omega) _)) rfl 4 (by decide) k204 (fun _ h9 => h9) rfl dX3_frameToFill_15 ?_
        refine lv_aload_n hx hb dX3_frameToFill_18 rfl (lv_at hl 2 rfl) ?_
        refine va_get (D := D) (ci := 3) (v := .ref (ad 4)) (C := RX3) (T := TX3) (N := 15) hx hb hts in3 hown hK hP 0 (me_get (by omega) (kk_0 cy ad _)) rfl 9 (by decide) k46 (fun _ h9 => h9) rfl dX3_frameToFill_19 ?_
        refine lv_iload_n hx hb dX3_frameToFill_22 rfl (lv_at hl 1 rfl) ?_
        refine me_aald (g := fun j => ad (94 + 2 * j)) hx hb hK hP 4 5 (by omega) (fun f => kk_a4 cy ad f) rfl v rfl (by omega) (by decide) dX3_frameToFill_23 ?_
        refine va_get (D := D) (ci := 1) (v := .int (σ (94 + 2 * v) 4)) (C := RX1) (T := TX1) (N := 5) hx hb hts in1 hown hK hP (94 + 2 * v) (me_get (by omega) (kk_fr cy ad (by omega) _)) rfl 4 (by decide) k204 (fun _ h9 => h9) rfl dX3_frameToFill_24 ?_
        refine lv_icmp_ge (tgt := 32) hx hb dX3_frameToFill_27 (by decide) (fun c27 => ?_) (fun c27 => ?_)
        ·
          refine lv_iinc (v := nI (i + 1)) (lv' := [(2, .int (nI (i + 1))), (1, .int (nI v)), (0, .ref (ad 0))]) hx hb dX3_frameToFill_32 hl (k := 0) rfl (me_inc _) (by decide) rfl (fun ls hl => ?_)
          refine lv_goto (tgt := 4) hx hb dX3_frameToFill_35 (by decide) ?_
          exact ih v (i + 1) _ _ hP hD hS ls (lv_sub hl [0, 1, 2] rfl) (by omega) (by omega) (by omega) (by rw [hf4]; simp only [k_ff_4, if_neg c6, if_pos c27])
        ·
          refine lv_iload_n hx hb dX3_frameToFill_30 rfl (lv_at hl 0 rfl) ?_
          refine lv_istore_n (lv' := [(1, .int (nI i)), (2, .int (nI i)), (0, .ref (ad 0))]) hx hb dX3_frameToFill_31 rfl hl (by decide) rfl (fun ls hl => ?_)
          refine lv_iinc (v := nI (i + 1)) (lv' := [(2, .int (nI (i + 1))), (1, .int (nI i)), (0, .ref (ad 0))]) hx hb dX3_frameToFill_32 hl (k := 1) rfl (me_inc _) (by decide) rfl (fun ls hl => ?_)
          refine lv_goto (tgt := 4) hx hb dX3_frameToFill_35 (by decide) ?_
          exact ih i (i + 1) _ _ hP hD hS ls (lv_sub hl [0, 1, 2] rfl) (by omega) (by omega) (by omega) (by rw [hf4]; simp only [k_ff_4, if_neg c6, if_neg c27])
  exact J4 4 0 1 _ _ hP hD hS ls (lv_sub hl [0, 1, 2] rfl) (by omega) (by omega) (by omega) (by simp only [k_ff])

def k_sm_4 : Nat → Int32 → Int32 → Nat → me_M → Int32
  | 0, x, v, i, s => 0
  | n + 1, x, v, i, s => if nI 4 ≤ (nI i) then (v) else (let r19 := k_whole ((12 + i)) s; if r19 = 0 then (k_sm_4 n x v (i + 1) s) else (if (s (6 + 4 * (12 + i) + 3) 0) = x then (if v = (-1) then (k_sm_4 n x (nI i) (i + 1) s) else (if (s (6 + 4 * (12 + i) + 2) 0) ≤ s (6 + 4 * (12 + v.toNatClampNeg) + 2) 0 then (k_sm_4 n x v (i + 1) s) else (k_sm_4 n x (nI i) (i + 1) s))) else (k_sm_4 n x v (i + 1) s)))
def k_sm (x : Int32) (σ : me_M) : Int32 := k_sm_4 5 x ((-1)) 0 σ
set_option maxRecDepth 100000 in
set_option maxHeartbeats 4000000 in
theorem c_X3_slotToMendFrom (l : Launch) (D : va_G) (cy : Nat → ClassId) (ad : Nat → Nat) (xr : va_W) (x : Int32) (σ : me_M)  (sz : Nat) : me_Ci l yX3_slotToMendFrom wsX3_slotToMendFrom ({ frames := 1, cells := 0, slots := 0, locals := 21 }) D (me_T cy) (kk_W cy ad xr) [.ref (ad 0), .int x] sz σ (k_sm x σ, σ) := by
  refine Met.ofW (cc := cX3_slotToMendFrom) (maxL := 5) (ret := (some .int)) (by decide) rfl ?_
  intro p e st m args below meth c s₁ B hml hv
  obtain ⟨rfl, hsz, hP, hK, hD0⟩ := hv
  have hx := B.exec
  have hb := B.bytes
  have hr := B.returns
  have hts := atoms_spec (ws := wsX3_slotToMendFrom) B.pre
  have hown : st.vm.findClass RX3 = some m.cls := findClass_of_methodNamed B.named
  have hlocks := B.notSynchronized
  have in2 : ∀ w ∈ u_ws RX2 TX2 3, w ∈ wsX3_slotToMendFrom := by decide +kernel
  have in3 : ∀ w ∈ u_ws RX3 TX3 15, w ∈ wsX3_slotToMendFrom := by decide +kernel
  have k15 := hts (.fieldLink RX3 15 "TwinWrites" "slots" "[LTwinWrites$Place;") (by decide +kernel)
  have k221 := hts (.fieldLink RX3 221 "TwinWrites$Place" "stamps" "[I") (by decide +kernel)
  have k225 := hts (.fieldLink RX3 225 "TwinWrites$Place" "pages" "[I") (by decide +kernel)
  subst hsz
  have hD := hD0.self (sz := st.heap.size)
  have hA : ∀ q : Nat, st.heap.size ≤ q → va_A ((kk_W cy ad xr) σ) st.heap.size q := fun q h => Or.inr h
  have hS : va_S (va_A ((kk_W cy ad xr) σ) st.heap.size) st.heap st.heap [] := va_S.rf
  generalize va_A ((kk_W cy ad xr) σ) st.heap.size = A at hD hA hS ⊢
  have hl := lv_entry ([.ref (ad 0), .int x]) (n := 5) (Nat.le_of_ble_eq_true rfl)
  rw [lg_entry_eq]
  generalize (lg_sl ([.ref (ad 0), .int x]) ++ List.replicate (5 - (lg_sl ([.ref (ad 0), .int x])).length) Slot.unset).toArray = ls at hl ⊢
  have hl : lv_has ls 5 [(0, .ref (ad 0)), (1, .int x)] := hl
  refine lv_iconst (v := (-1)) hx hb dX3_slotToMendFrom_0 (by decide) ?_
  refine lv_istore_n (lv' := [(2, .int ((-1))), (0, .ref (ad 0)), (1, .int x)]) hx hb dX3_slotToMendFrom_1 rfl hl (by decide) rfl (fun ls hl => ?_)
  refine lv_iconst (v := nI 0) hx hb dX3_slotToMendFrom_2 (by decide) ?_
  refine lv_istore_n (lv' := [(3, .int (nI 0)), (2, .int ((-1))), (0, .ref (ad 0)), (1, .int x)]) hx hb dX3_slotToMendFrom_3 rfl hl (by decide) rfl (fun ls hl => ?_)
  have J4 : ∀ (n : Nat) (v : Int32) (i : Nat) (H : Heap) (locs : List Loc) (hP : va_P D vwCl ((kk_W cy ad xr) σ) H) (hD : va_D A ((kk_W cy ad xr) σ)) (hS : va_S A st.heap H locs) (ls : Array Slot) (hl : lv_has ls 5 [(3, .int (nI i)), (2, .int v), (0, .ref (ad 0)), (1, .int x)]), ∀ (hv : v = (-1) ∨ vp_in v 4), ∀ (hi : i ≤ 4), ∀ (hn : 5 ≤ i + n), k_sm x σ = k_sm_4 n x v i σ → W p l e (headSpec wsX3_slotToMendFrom ({ frames := 1, cells := 0, slots := 0, locals := 21 })).room st m ([.ref (ad 0), .int x] : List Value).toArray below meth c H locs 0 0 (MQ below (va_Qi (fun r σ' => (r, σ') = (k_sm x σ, σ)) (me_B D (me_T cy) A (kk_W cy ad xr)) A) ([.ref (ad 0), .int x] : List Value).toArray st 0 0 A) (F0 m 4 ls []) := by
    intro n
    induction n with
    | zero => intro v i H locs hP hD hS ls hl hv hi hn hf4; exfalso; omega
    | succ n ih =>
      intro v i H locs hP hD hS ls hl hv hi hn hf4
      refine lv_iload_n hx hb dX3_slotToMendFrom_4 rfl (lv_at hl 0 rfl) ?_
      refine lv_iconst (v := nI 4) hx hb dX3_slotToMendFrom_5 (by decide) ?_
      refine lv_icmp_ge (tgt := 70) hx hb dX3_slotToMendFrom_6 (by decide) (fun c6 => ?_) (fun c6 => ?_)
      ·
        try have h6 := (nI_leI (by omega) (by omega)).mp c6
        refine lv_iload_n hx hb dX3_slotToMendFrom_70 rfl (lv_at hl 1 rfl) ?_
        exact me_retr hx hb hr rfl hlocks hK hP hD hS (by first | (rw [hf4]; simp only [k_sm_4, if_pos c6]; done) | contradiction) dX3_slotToMendFrom_71
      ·
        try have h6 := (not_congr (nI_leI (by omega) (by omega))).mp c6
        refine lv_aload_n hx hb dX3_slotToMendFrom_9 rfl (lv_at hl 2 rfl) ?_
        refine va_get (D := D) (ci := 3) (v := .ref (ad 2)) (C := RX3) (T := TX3) (N := 15) hx hb hts in3 hown hK hP 0 (me_get (by omega) (kk_0 cy ad _)) rfl 1 (by decide) k15 (fun _ h9 => h9) rfl dX3_slotToMendFrom_10 ?_
        refine lv_iload_n hx hb dX3_slotToMendFrom_13 rfl (lv_at hl 0 rfl) ?_
        refine me_aald (g := fun j => ad (6 + 4 * (12 + j))) hx hb hK hP 2 3 (by omega) (fun f => kk_a2 cy ad f) rfl i rfl (by omega) (by decide) dX3_slotToMendFrom_14 ?_
        refine lv_astore (lv' := [(4, .ref (ad (6 + 4 * (12 + i)))), (3, .int (nI i)), (2, .int v), (0, .ref (ad 0)), (1, .int x)]) hx hb dX3_slotToMendFrom_15 hl (by decide) rfl (fun ls hl => ?_)
        refine lv_aload hx hb dX3_slotToMendFrom_17 (lv_at hl 0 rfl) ?_
        refine me_callr (f := k_whole ((12 + i)) σ) (w := (kk_W cy ad xr)) (σ := σ) (As := []) (rest := []) ⟨hx, hb, hml, hown, hts⟩ (fun sz => c_X2_isWhole l D cy ad xr ((12 + i)) σ (by omega) sz) (cwV 0 hts gX3_slotToMendFrom_X2_isWhole rfl rfl rfl (by decide +kernel) ⟨Nat.le_of_ble_eq_true rfl, Nat.le_of_ble_eq_true rfl⟩) (va_recv hK hP (ci := 2) (q0 := (6 + 4 * (12 + i))) rfl (me_get (by omega) (kk_pl cy ad (by omega) _))) hK hP hD hS hA rfl hl.1 rfl (Nat.le_of_ble_eq_true rfl) dX3_slotToMendFrom_19 ⟨Nat.zero_le _, Nat.zero_le _⟩ (fun r19 H locs e19 hP hD hS => ?_)
        refine lv_if_eq (tgt := 64) hx hb dX3_slotToMendFrom_22 (by decide) (fun c22 => ?_) (fun c22 => ?_)
        ·
          refine lv_iinc (v := nI (i + 1)) (lv' := [(3, .int (nI (i + 1))), (4, .ref (ad (6 + 4 * (12 + i)))), (2, .int v), (0, .ref (ad 0)), (1, .int x)]) hx hb dX3_slotToMendFrom_64 hl (k := 1) rfl (me_inc _) (by decide) rfl (fun ls hl => ?_)
          refine lv_goto (tgt := 4) hx hb dX3_slotToMendFrom_67 (by decide) ?_
          exact ih v (i + 1) _ _ hP hD hS ls (lv_sub hl [0, 2, 3, 4] rfl) (by first | exact hv | exact Or.inr (vp_in_nI (by omega) (by decide))) (by omega) (by omega) (by rw [hf4]; simp only [k_sm_4, if_neg c6, e19, if_pos c22])
        ·
          refine lv_aload hx hb dX3_slotToMendFrom_25 (lv_at hl 0 rfl) ?_
          refine va_get (D := D) (ci := 2) (v := .ref (ad (6 + 4 * (12 + i) + 3))) (C := RX2) (T := TX2) (N := 3) hx hb hts in2 hown hK hP (6 + 4 * (12 + i)) (me_get (by omega) (kk_pl cy ad (by omega) _)) rfl 2 (by decide) k225 (fun _ h9 => h9) rfl dX3_slotToMendFrom_27 ?_
          refine lv_iconst (v := nI 0) hx hb dX3_slotToMendFrom_30 (by decide) ?_
          refine me_iald hx hb hK hP (6 + 4 * (12 + i) + 3) 0 (by omega) (fun f => kk_4 cy ad (by omega) f) rfl 0 rfl (by omega) (by decide) dX3_slotToMendFrom_31 ?_
          refine lv_iload_n hx hb dX3_slotToMendFrom_32 rfl (lv_at hl 4 rfl) ?_
          refine lv_icmp_ne (tgt := 64) hx hb dX3_slotToMendFrom_33 (by decide) (fun c33 => ?_) (fun c33 => ?_)
          ·
            refine lv_iinc (v := nI (i + 1)) (lv' := [(3, .int (nI (i + 1))), (4, .ref (ad (6 + 4 * (12 + i)))), (2, .int v), (0, .ref (ad 0)), (1, .int x)]) hx hb dX3_slotToMendFrom_64 hl (k := 1) rfl (me_inc _) (by decide) rfl (fun ls hl => ?_)
            refine lv_goto (tgt := 4) hx hb dX3_slotToMendFrom_67 (by decide) ?_
            exact ih v (i + 1) _ _ hP hD hS ls (lv_sub hl [0, 2, 3, 4] rfl) (by first | exact hv | exact Or.inr (vp_in_nI (by omega) (by decide))) (by omega) (by omega) (by rw [hf4]; simp only [k_sm_4, if_neg c6, e19, if_neg c22, if_neg c33])
          ·
            refine lv_iload_n hx hb dX3_slotToMendFrom_36 rfl (lv_at hl 2 rfl) ?_
            refine lv_iconst (v := (-1)) hx hb dX3_slotToMendFrom_37 (by decide) ?_
            refine lv_icmp_eq (tgt := 62) hx hb dX3_slotToMendFrom_38 (by decide) (fun c38 => ?_) (fun c38 => ?_)
            ·
              refine lv_iload_n hx hb dX3_slotToMendFrom_62 rfl (lv_at hl 1 rfl) ?_
              refine lv_istore_n (lv' := [(2, .int (nI i)), (4, .ref (ad (6 + 4 * (12 + i)))), (3, .int (nI i)), (0, .ref (ad 0)), (1, .int x)]) hx hb dX3_slotToMendFrom_63 rfl hl (by decide) rfl (fun ls hl => ?_)
              refine lv_iinc (v := nI (i + 1)) (lv' := [(3, .int (nI (i + 1))), (2, .int (nI i)), (4, .ref (ad (6 + 4 * (12 + i)))), (0, .ref (ad 0)), (1, .int x)]) hx hb dX3_slotToMendFrom_64 hl (k := 2) rfl (me_inc _) (by decide) rfl (fun ls hl => ?_)
              refine lv_goto (tgt := 4) hx hb dX3_slotToMendFrom_67 (by decide) ?_
              exact ih (nI i) (i + 1) _ _ hP hD hS ls (lv_sub hl [0, 1, 3, 4] rfl) (by first | exact hv | exact Or.inr (vp_in_nI (by omega) (by decide))) (by omega) (by omega) (by rw [hf4]; simp only [k_sm_4, if_neg c6, e19, if_neg c22, if_pos c33, if_pos c38])
            ·
              refine lv_aload hx hb dX3_slotToMendFrom_41 (lv_at hl 0 rfl) ?_
              refine va_get (D := D) (ci := 2) (v := .ref (ad (6 + 4 * (12 + i) + 2))) (C := RX2) (T := TX2) (N := 3) hx hb hts in2 hown hK hP (6 + 4 * (12 + i)) (me_get (by omega) (kk_pl cy ad (by omega) _)) rfl 1 (by decide) k221 (fun _ h9 => h9) rfl dX3_slotToMendFrom_43 ?_
              refine lv_iconst (v := nI 0) hx hb dX3_slotToMendFrom_46 (by decide) ?_
              refine me_iald hx hb hK hP (6 + 4 * (12 + i) + 2) 0 (by omega) (fun f => kk_4 cy ad (by omega) f) rfl 0 rfl (by omega) (by decide) dX3_slotToMendFrom_47 ?_
              refine lv_aload_n hx hb dX3_slotToMendFrom_48 rfl (lv_at hl 3 rfl) ?_
              refine va_get (D := D) (ci := 3) (v := .ref (ad 2)) (C := RX3) (T := TX3) (N := 15) hx hb hts in3 hown hK hP 0 (me_get (by omega) (kk_0 cy ad _)) rfl 1 (by decide) k15 (fun _ h9 => h9) rfl dX3_slotToMendFrom_49 ?_
              refine lv_iload_n hx hb dX3_slotToMendFrom_52 rfl (lv_at hl 2 rfl) ?_
              have v53 : vp_in v 4 := hv.resolve_left c38
              have b53 := me_inb v53
              refine me_aald (g := fun j => ad (6 + 4 * (12 + j))) hx hb hK hP 2 3 (by omega) (fun f => kk_a2 cy ad f) rfl v.toNatClampNeg (me_ine v53) (by omega) (by decide) dX3_slotToMendFrom_53 ?_
              refine va_get (D := D) (ci := 2) (v := .ref (ad (6 + 4 * (12 + v.toNatClampNeg) + 2))) (C := RX2) (T := TX2) (N := 3) hx hb hts in2 hown hK hP (6 + 4 * (12 + v.toNatClampNeg)) (me_get (by omega) (kk_pl cy ad (by omega) _)) rfl 1 (by decide) k221 (fun _ h9 => h9) rfl dX3_slotToMendFrom_54 ?_
              refine lv_iconst (v := nI 0) hx hb dX3_slotToMendFrom_57 (by decide) ?_
              refine me_iald hx hb hK hP (6 + 4 * (12 + v.toNatClampNeg) + 2) 0 (by omega) (fun f => kk_4 cy ad (by omega) f) rfl 0 rfl (by omega) (by decide) dX3_slotToMendFrom_58 ?_
              refine lv_icmp_le (tgt := 64) hx hb dX3_slotToMendFrom_59 (by decide) (fun c59 => ?_) (fun c59 => ?_)
              ·
                refine lv_iinc (v := nI (i + 1)) (lv' := [(3, .int (nI (i + 1))), (4, .ref (ad (6 + 4 * (12 + i)))), (2, .int v), (0, .ref (ad 0)), (1, .int x)]) hx hb dX3_slotToMendFrom_64 hl (k := 1) rfl (me_inc _) (by decide) rfl (fun ls hl => ?_)
                refine lv_goto (tgt := 4) hx hb dX3_slotToMendFrom_67 (by decide) ?_
                exact ih v (i + 1) _ _ hP hD hS ls (lv_sub hl [0, 2, 3, 4] rfl) (by first | exact hv | exact Or.inr (vp_in_nI (by omega) (by decide))) (by omega) (by omega) (by rw [hf4]; simp only [k_sm_4, if_neg c6, e19, if_neg c22, if_pos c33, if_neg c38, if_pos c59])
              ·
                refine lv_iload_n hx hb dX3_slotToMendFrom_62 rfl (lv_at hl 1 rfl) ?_
                refine lv_istore_n (lv' := [(2, .int (nI i)), (4, .ref (ad (6 + 4 * (12 + i)))), (3, .int (nI i)), (0, .ref (ad 0)), (1, .int x)]) hx hb dX3_slotToMendFrom_63 rfl hl (by decide) rfl (fun ls hl => ?_)
                refine lv_iinc (v := nI (i + 1)) (lv' := [(3, .int (nI (i + 1))), (2, .int (nI i)), (4, .ref (ad (6 + 4 * (12 + i)))), (0, .ref (ad 0)), (1, .int x)]) hx hb dX3_slotToMendFrom_64 hl (k := 2) rfl (me_inc _) (by decide) rfl (fun ls hl => ?_)
                refine lv_goto (tgt := 4) hx hb dX3_slotToMendFrom_67 (by decide) ?_
                exact ih (nI i) (i + 1) _ _ hP hD hS ls (lv_sub hl [0, 1, 3, 4] rfl) (by first | exact hv | exact Or.inr (vp_in_nI (by omega) (by decide))) (by omega) (by omega) (by rw [hf4]; simp only [k_sm_4, if_neg c6, e19, if_neg c22, if_pos c33, if_neg c38, if_neg c59])
  exact J4 5 ((-1)) 0 _ _ hP hD hS ls (lv_sub hl [0, 1, 2, 3] rfl) (Or.inl rfl) (by omega) (by omega) (by simp only [k_sm])

def k_chw_7 : Nat → Nat → Nat → Nat → Int32 → Int32 → Int32 → Nat → me_M → me_M
  | 0, k, a, w, x, y, v, i, s => s
  | n + 1, k, a, w, x, y, v, i, s => if nI (a + w) ≤ (nI i) then (s) else (let s41 := k_set (70 + 2 * ((k_fm (s 0 12) (nI 12)).toNatClampNeg) + 1) (s 0 12) (s (94 + 2 * k) 1) (nI i) v s; let s53 := k_cw k i v (s41 0 12) s41; let s63 := me_st s53 0 11 ((s53 0 11) + (nI 1)); let s73 := me_st s63 0 12 ((s63 0 12) + (nI 1)); k_chw_7 n k a w x y (v + y) (i + 1) s73)
def k_chw (k : Nat) (a : Nat) (w : Nat) (x : Int32) (y : Int32) (σ : me_M) : me_M := k_chw_7 (w + 1) k a w x y x a σ
set_option maxRecDepth 100000 in
set_option maxHeartbeats 4000000 in
theorem c_X3_changeWords (l : Launch) (D : va_G) (cy : Nat → ClassId) (ad : Nat → Nat) (xr : va_W) (k : Nat) (a : Nat) (w : Nat) (x : Int32) (y : Int32) (σ : me_M) (hk : k < 4) (hw : a + w ≤ 16) (sz : Nat) : me_Cv l yX3_changeWords wsX3_changeWords ({ frames := 1, cells := 0, slots := 0, locals := 24 }) D (me_T cy) (kk_W cy ad xr) [.ref (ad 0), .ref (ad (94 + 2 * k)), .int (nI a), .int (nI w), .int x, .int y] sz σ (k_chw k a w x y σ) := by
  refine Met.ofW (cc := cX3_changeWords) (maxL := 8) (ret := none) (by decide) rfl ?_
  intro p e st m args below meth c s₁ B hml hv
  obtain ⟨rfl, hsz, hP, hK, hD0⟩ := hv
  have hx := B.exec
  have hb := B.bytes
  have hr := B.returns
  have hts := atoms_spec (ws := wsX3_changeWords) B.pre
  have hown : st.vm.findClass RX3 = some m.cls := findClass_of_methodNamed B.named
  have hlocks := B.notSynchronized
  have in1 : ∀ w ∈ u_ws RX1 TX1 5, w ∈ wsX3_changeWords := by decide +kernel
  have in3 : ∀ w ∈ u_ws RX3 TX3 15, w ∈ wsX3_changeWords := by decide +kernel
  have k50 := hts (.fieldLink RX3 50 "TwinWrites" "waiting" "[LTwinWrites$Change;") (by decide +kernel)
  have k53 := hts (.fieldLink RX3 53 "TwinWrites" "waitingCount" "I") (by decide +kernel)
  have k56 := hts (.fieldLink RX3 56 "TwinWrites" "nextNumber" "I") (by decide +kernel)
  have k178 := hts (.fieldLink RX3 178 "TwinWrites$Frame" "page" "I") (by decide +kernel)
  subst hsz
  have hD := hD0.self (sz := st.heap.size)
  have hA : ∀ q : Nat, st.heap.size ≤ q → va_A ((kk_W cy ad xr) σ) st.heap.size q := fun q h => Or.inr h
  have hS : va_S (va_A ((kk_W cy ad xr) σ) st.heap.size) st.heap st.heap [] := va_S.rf
  generalize va_A ((kk_W cy ad xr) σ) st.heap.size = A at hD hA hS ⊢
  have hl := lv_entry ([.ref (ad 0), .ref (ad (94 + 2 * k)), .int (nI a), .int (nI w), .int x, .int y]) (n := 8) (Nat.le_of_ble_eq_true rfl)
  rw [lg_entry_eq]
  generalize (lg_sl ([.ref (ad 0), .ref (ad (94 + 2 * k)), .int (nI a), .int (nI w), .int x, .int y]) ++ List.replicate (8 - (lg_sl ([.ref (ad 0), .ref (ad (94 + 2 * k)), .int (nI a), .int (nI w), .int x, .int y])).length) Slot.unset).toArray = ls at hl ⊢
  have hl : lv_has ls 8 [(0, .ref (ad 0)), (1, .ref (ad (94 + 2 * k))), (2, .int (nI a)), (3, .int (nI w)), (4, .int x), (5, .int y)] := hl
  refine lv_iload hx hb dX3_changeWords_0 (lv_at hl 4 rfl) ?_
  refine lv_istore (lv' := [(6, .int x), (0, .ref (ad 0)), (1, .ref (ad (94 + 2 * k))), (2, .int (nI a)), (3, .int (nI w)), (4, .int x), (5, .int y)]) hx hb dX3_changeWords_2 hl (by decide) rfl (fun ls hl => ?_)
  refine lv_iload_n hx hb dX3_changeWords_4 rfl (lv_at hl 3 rfl) ?_
  refine lv_istore (lv' := [(7, .int (nI a)), (6, .int x), (0, .ref (ad 0)), (1, .ref (ad (94 + 2 * k))), (2, .int (nI a)), (3, .int (nI w)), (4, .int x), (5, .int y)]) hx hb dX3_changeWords_5 hl (by decide) rfl (fun ls hl => ?_)
  have J7 : ∀ (n : Nat) (v : Int32) (i : Nat) (s : me_M) (H : Heap) (locs : List Loc) (hP : va_P D vwCl ((kk_W cy ad xr) s) H) (hD : va_D A ((kk_W cy ad xr) s)) (hS : va_S A st.heap H locs) (ls : Array Slot) (hl : lv_has ls 8 [(7, .int (nI i)), (6, .int v), (0, .ref (ad 0)), (1, .ref (ad (94 + 2 * k))), (2, .int (nI a)), (3, .int (nI w)), (4, .int x), (5, .int y)]), ∀ (hi : a ≤ i ∧ i ≤ a + w), ∀ (hn : a + w + 1 ≤ i + n), k_chw k a w x y σ = k_chw_7 n k a w x y v i s → W p l e (headSpec wsX3_changeWords ({ frames := 1, cells := 0, slots := 0, locals := 24 })).room st m ([.ref (ad 0), .ref (ad (94 + 2 * k)), .int (nI a), .int (nI w), .int x, .int y] : List Value).toArray below meth c H locs 0 0 (MQ below (va_Qv (fun σ' => σ' = k_chw k a w x y σ) (me_B D (me_T cy) A (kk_W cy ad xr)) A) ([.ref (ad 0), .ref (ad (94 + 2 * k)), .int (nI a), .int (nI w), .int x, .int y] : List Value).toArray st 0 0 A) (F0 m 7 ls []) := by
    intro n
    induction n with
    | zero => intro v i s H locs hP hD hS ls hl hi hn hf7; exfalso; omega
    | succ n ih =>
      intro v i s H locs hP hD hS ls hl hi hn hf7
      refine lv_iload hx hb dX3_changeWords_7 (lv_at hl 0 rfl) ?_
      refine lv_iload_n hx hb dX3_changeWords_9 rfl (lv_at hl 4 rfl) ?_
      refine lv_iload_n hx hb dX3_changeWords_10 rfl (lv_at hl 5 rfl) ?_
      refine lv_iadd hx hb dX3_changeWords_11 ?_
      refine me_top (nI_add _ _) ?_
      refine lv_icmp_ge (tgt := 89) hx hb dX3_changeWords_12 (by decide) (fun c12 => ?_) (fun c12 => ?_)
      ·
        try have h12 := (nI_leI (by omega) (by omega)).mp c12
        exact me_retv hx hb hr hlocks hK hP hD hS (by first | (rw [hf7]; simp only [k_chw_7, if_pos c12]; done) | contradiction) dX3_changeWords_89
      ·
        try have h12 := (not_congr (nI_leI (by omega) (by omega))).mp c12
        refine lv_aload_n hx hb dX3_changeWords_15 rfl (lv_at hl 2 rfl) ?_
        refine va_get (D := D) (ci := 3) (v := .ref (ad 5)) (C := RX3) (T := TX3) (N := 15) hx hb hts in3 hown hK hP 0 (me_get (by omega) (kk_0 cy ad _)) rfl 10 (by decide) k50 (fun _ h9 => h9) rfl dX3_changeWords_16 ?_
        refine lv_aload_n hx hb dX3_changeWords_19 rfl (lv_at hl 2 rfl) ?_
        refine va_get (D := D) (ci := 3) (v := .int (s 0 12)) (C := RX3) (T := TX3) (N := 15) hx hb hts in3 hown hK hP 0 (me_get (by omega) (kk_0 cy ad _)) rfl 12 (by decide) k56 (fun _ h9 => h9) rfl dX3_changeWords_20 ?_
        refine lv_bipush (v := nI 12) hx hb dX3_changeWords_23 (by decide) ?_
        refine me_calls (As := [.int (s 0 12), .int (nI 12)]) (rest := [.ref (ad 5)]) ⟨hx, hb, hml, hown, hts⟩ (c_J9_floorMod_7cf53 l (s 0 12) (nI 12) (by decide)) (va_cwS 2 hts gX3_changeWords_J9_floorMod_7cf53 rfl rfl rfl (by decide +kernel) ⟨Nat.le_of_ble_eq_true rfl, Nat.le_of_ble_eq_true rfl⟩) rfl hl.1 rfl (Nat.le_of_ble_eq_true rfl) dX3_changeWords_25 ⟨Nat.zero_le _, Nat.zero_le _⟩ ?_
        have v28 : vp_in (k_fm (s 0 12) (nI 12)) 12 := pu_fm_in _
        have b28 := me_inb v28
        refine me_aald (g := fun j => ad (70 + 2 * j + 1)) hx hb hK hP 5 4 (by omega) (fun f => kk_a5 cy ad f) rfl ((k_fm (s 0 12) (nI 12)).toNatClampNeg) (me_ine v28) (by omega) (by decide) dX3_changeWords_28 ?_
        refine lv_aload_n hx hb dX3_changeWords_29 rfl (lv_at hl 2 rfl) ?_
        refine va_get (D := D) (ci := 3) (v := .int (s 0 12)) (C := RX3) (T := TX3) (N := 15) hx hb hts in3 hown hK hP 0 (me_get (by omega) (kk_0 cy ad _)) rfl 12 (by decide) k56 (fun _ h9 => h9) rfl dX3_changeWords_30 ?_
        refine lv_aload_n hx hb dX3_changeWords_33 rfl (lv_at hl 3 rfl) ?_
        refine va_get (D := D) (ci := 1) (v := .int (s (94 + 2 * k) 1)) (C := RX1) (T := TX1) (N := 5) hx hb hts in1 hown hK hP (94 + 2 * k) (me_get (by omega) (kk_fr cy ad (by omega) _)) rfl 1 (by decide) k178 (fun _ h9 => h9) rfl dX3_changeWords_34 ?_
        refine lv_iload hx hb dX3_changeWords_37 (lv_at hl 0 rfl) ?_
        refine lv_iload hx hb dX3_changeWords_39 (lv_at hl 1 rfl) ?_
        refine me_callv (f := k_set (70 + 2 * ((k_fm (s 0 12) (nI 12)).toNatClampNeg) + 1) (s 0 12) (s (94 + 2 * k) 1) (nI i) v s) (w := (kk_W cy ad xr)) (σ := s) (As := [.int (s 0 12), .int (s (94 + 2 * k) 1), .int (nI i), .int v]) (rest := []) ⟨hx, hb, hml, hown, hts⟩ (fun sz => c_X0_set l D cy ad xr (70 + 2 * ((k_fm (s 0 12) (nI 12)).toNatClampNeg) + 1) (s 0 12) (s (94 + 2 * k) 1) (nI i) v s (by omega) sz) (cwV 4 hts gX3_changeWords_X0_set rfl rfl rfl (by decide +kernel) ⟨Nat.le_of_ble_eq_true rfl, Nat.le_of_ble_eq_true rfl⟩) (va_recv hK hP (ci := 0) (q0 := (70 + 2 * ((k_fm (s 0 12) (nI 12)).toNatClampNeg) + 1)) rfl (me_get (by omega) (kk_ch cy ad (by omega) _))) hK hP hD hS hA rfl hl.1 rfl (Nat.le_of_ble_eq_true rfl) dX3_changeWords_41 ⟨Nat.zero_le _, Nat.zero_le _⟩ (fun s41 H locs e41 hP hD hS => ?_)
        refine lv_aload_n hx hb dX3_changeWords_44 rfl (lv_at hl 3 rfl) ?_
        refine lv_iload hx hb dX3_changeWords_45 (lv_at hl 0 rfl) ?_
        refine lv_iload hx hb dX3_changeWords_47 (lv_at hl 1 rfl) ?_
        refine lv_aload_n hx hb dX3_changeWords_49 rfl (lv_at hl 2 rfl) ?_
        refine va_get (D := D) (ci := 3) (v := .int (s41 0 12)) (C := RX3) (T := TX3) (N := 15) hx hb hts in3 hown hK hP 0 (me_get (by omega) (kk_0 cy ad _)) rfl 12 (by decide) k56 (fun _ h9 => h9) rfl dX3_changeWords_50 ?_
        refine me_callv (f := k_cw k i v (s41 0 12) s41) (w := (kk_W cy ad xr)) (σ := s41) (As := [.int (nI i), .int v, .int (s41 0 12)]) (rest := []) ⟨hx, hb, hml, hown, hts⟩ (fun sz => c_X1_changeWord l D cy ad xr k i v (s41 0 12) s41 (by omega) (by omega) sz) (cwV 3 hts gX3_changeWords_X1_changeWord rfl rfl rfl (by decide +kernel) ⟨Nat.le_of_ble_eq_true rfl, Nat.le_of_ble_eq_true rfl⟩) (va_recv hK hP (ci := 1) (q0 := (94 + 2 * k)) rfl (me_get (by omega) (kk_fr cy ad (by omega) _))) hK hP hD hS hA rfl hl.1 rfl (Nat.le_of_ble_eq_true rfl) dX3_changeWords_53 ⟨Nat.zero_le _, Nat.zero_le _⟩ (fun s53 H locs e53 hP hD hS => ?_)
        refine lv_aload_n hx hb dX3_changeWords_56 rfl (lv_at hl 2 rfl) ?_
        refine lv_dup hx hb dX3_changeWords_57 rfl ?_
        refine va_get (D := D) (ci := 3) (v := .int (s53 0 11)) (C := RX3) (T := TX3) (N := 15) hx hb hts in3 hown hK hP 0 (me_get (by omega) (kk_0 cy ad _)) rfl 11 (by decide) k53 (fun _ h9 => h9) rfl dX3_changeWords_58 ?_
        refine lv_iconst (v := nI 1) hx hb dX3_changeWords_61 (by decide) ?_
        refine lv_iadd hx hb dX3_changeWords_62 ?_
        refine me_put (ty := .int) (ci := 3) (C := RX3) (T := TX3) (M := 15) hx hb hts in3 tyX3 tyX3_ok nmX3 hown hK hP hD hS 0 (by omega) (kk_0 cy ad _) rfl 11 (by decide) k53 (fun _ h9 => h9) rfl (by decide +kernel) rfl rfl (Nat.le_of_ble_eq_true rfl) (kk_0 cy ad _) dX3_changeWords_63 (fun s63 H locs e63 hP hD hS => ?_)
        refine lv_aload_n hx hb dX3_changeWords_66 rfl (lv_at hl 2 rfl) ?_
        refine lv_dup hx hb dX3_changeWords_67 rfl ?_
        refine va_get (D := D) (ci := 3) (v := .int (s63 0 12)) (C := RX3) (T := TX3) (N := 15) hx hb hts in3 hown hK hP 0 (me_get (by omega) (kk_0 cy ad _)) rfl 12 (by decide) k56 (fun _ h9 => h9) rfl dX3_changeWords_68 ?_
        refine lv_iconst (v := nI 1) hx hb dX3_changeWords_71 (by decide) ?_
        refine lv_iadd hx hb dX3_changeWords_72 ?_
        refine me_put (ty := .int) (ci := 3) (C := RX3) (T := TX3) (M := 15) hx hb hts in3 tyX3 tyX3_ok nmX3 hown hK hP hD hS 0 (by omega) (kk_0 cy ad _) rfl 12 (by decide) k56 (fun _ h9 => h9) rfl (by decide +kernel) rfl rfl (Nat.le_of_ble_eq_true rfl) (kk_0 cy ad _) dX3_changeWords_73 (fun s73 H locs e73 hP hD hS => ?_)
        refine lv_iload hx hb dX3_changeWords_76 (lv_at hl 1 rfl) ?_
        refine lv_iload hx hb dX3_changeWords_78 (lv_at hl 7 rfl) ?_
        refine lv_iadd hx hb dX3_changeWords_80 ?_
        refine lv_istore (lv' := [(6, .int (v + y)), (7, .int (nI i)), (0, .ref (ad 0)), (1, .ref (ad (94 + 2 * k))), (2, .int (nI a)), (3, .int (nI w)), (4, .int x), (5, .int y)]) hx hb dX3_changeWords_81 hl (by decide) rfl (fun ls hl => ?_)
        refine lv_iinc (v := nI (i + 1)) (lv' := [(7, .int (nI (i + 1))), (6, .int (v + y)), (0, .ref (ad 0)), (1, .ref (ad (94 + 2 * k))), (2, .int (nI a)), (3, .int (nI w)), (4, .int x), (5, .int y)]) hx hb dX3_changeWords_83 hl (k := 1) rfl (me_inc _) (by decide) rfl (fun ls hl => ?_)
        refine lv_goto (tgt := 7) hx hb dX3_changeWords_86 (by decide) ?_
        exact ih (v + y) (i + 1) s73 _ _ hP hD hS ls (lv_sub hl [0, 1, 2, 3, 4, 5, 6, 7] rfl) (by omega) (by omega) (by rw [hf7]; simp only [k_chw_7, if_neg c12, e41, e53, e63, e73])
  exact J7 (w + 1) x a σ _ _ hP hD hS ls (lv_sub hl [0, 1, 2, 3, 4, 5, 6, 7] rfl) (by omega) (by omega) (by simp only [k_chw])
