def k_got  (σ : me_M) : Int32 := σ 0 14
set_option maxRecDepth 100000 in
set_option maxHeartbeats 4000000 in
theorem c_X3_got (l : Launch) (D : va_G) (cy : Nat → ClassId) (ad : Nat → Nat) (xr : va_W)  (σ : me_M)  (sz : Nat) : me_Ci l yX3_got wsX3_got ({ frames := 0, cells := 0, slots := 0, locals := 0 }) D (me_T cy) (kk_W cy ad xr) [.ref (ad 0)] sz σ (k_got  σ, σ) := by
  refine Met.ofW (cc := cX3_got) (maxL := 1) (ret := (some .int)) (by decide) rfl ?_
  intro p e st m args below meth c s₁ B hml hv
  obtain ⟨rfl, hsz, hP, hK, hD0⟩ := hv
  have hx := B.exec
  have hb := B.bytes
  have hr := B.returns
  have hts := atoms_spec (ws := wsX3_got) B.pre
  have hown : st.vm.findClass RX3 = some m.cls := findClass_of_methodNamed B.named
  have hlocks := B.notSynchronized
  have in3 : ∀ w ∈ u_ws RX3 TX3 15, w ∈ wsX3_got := by decide +kernel
  have k62 := hts (.fieldLink RX3 62 "TwinWrites" "wordGot" "I") (by decide +kernel)
  subst hsz
  have hD := hD0.self (sz := st.heap.size)
  have hA : ∀ q : Nat, st.heap.size ≤ q → va_A ((kk_W cy ad xr) σ) st.heap.size q := fun q h => Or.inr h
  have hS : va_S (va_A ((kk_W cy ad xr) σ) st.heap.size) st.heap st.heap [] := va_S.rf
  generalize va_A ((kk_W cy ad xr) σ) st.heap.size = A at hD hA hS ⊢
  have hl := lv_entry ([.ref (ad 0)]) (n := 1) (Nat.le_of_ble_eq_true rfl)
  rw [lg_entry_eq]
  generalize (lg_sl ([.ref (ad 0)]) ++ List.replicate (1 - (lg_sl ([.ref (ad 0)])).length) Slot.unset).toArray = ls at hl ⊢
  have hl : lv_has ls 1 [(0, .ref (ad 0))] := hl
  refine lv_aload_n hx hb dX3_got_0 rfl (lv_at hl 0 rfl) ?_
  refine va_get (D := D) (ci := 3) (v := .int (σ 0 14)) (C := RX3) (T := TX3) (N := 15) hx hb hts in3 hown hK hP 0 (me_get (by omega) (kk_0 cy ad _)) rfl 14 (by decide) k62 (fun _ h9 => h9) rfl dX3_got_1 ?_
  exact me_retr hx hb hr rfl hlocks hK hP hD hS (by simp only [k_got]) dX3_got_4

def k_room  (σ : me_M) : Int32 := ((σ 0 3) + (nI 12)) - (σ 0 12)
set_option maxRecDepth 100000 in
set_option maxHeartbeats 4000000 in
theorem c_X3_room (l : Launch) (D : va_G) (cy : Nat → ClassId) (ad : Nat → Nat) (xr : va_W)  (σ : me_M)  (sz : Nat) : me_Ci l yX3_room wsX3_room ({ frames := 0, cells := 0, slots := 0, locals := 0 }) D (me_T cy) (kk_W cy ad xr) [.ref (ad 0)] sz σ (k_room  σ, σ) := by
  refine Met.ofW (cc := cX3_room) (maxL := 1) (ret := (some .int)) (by decide) rfl ?_
  intro p e st m args below meth c s₁ B hml hv
  obtain ⟨rfl, hsz, hP, hK, hD0⟩ := hv
  have hx := B.exec
  have hb := B.bytes
  have hr := B.returns
  have hts := atoms_spec (ws := wsX3_room) B.pre
  have hown : st.vm.findClass RX3 = some m.cls := findClass_of_methodNamed B.named
  have hlocks := B.notSynchronized
  have in3 : ∀ w ∈ u_ws RX3 TX3 15, w ∈ wsX3_room := by decide +kernel
  have k24 := hts (.fieldLink RX3 24 "TwinWrites" "mark" "I") (by decide +kernel)
  have k56 := hts (.fieldLink RX3 56 "TwinWrites" "nextNumber" "I") (by decide +kernel)
  subst hsz
  have hD := hD0.self (sz := st.heap.size)
  have hA : ∀ q : Nat, st.heap.size ≤ q → va_A ((kk_W cy ad xr) σ) st.heap.size q := fun q h => Or.inr h
  have hS : va_S (va_A ((kk_W cy ad xr) σ) st.heap.size) st.heap st.heap [] := va_S.rf
  generalize va_A ((kk_W cy ad xr) σ) st.heap.size = A at hD hA hS ⊢
  have hl := lv_entry ([.ref (ad 0)]) (n := 1) (Nat.le_of_ble_eq_true rfl)
  rw [lg_entry_eq]
  generalize (lg_sl ([.ref (ad 0)]) ++ List.replicate (1 - (lg_sl ([.ref (ad 0)])).length) Slot.unset).toArray = ls at hl ⊢
  have hl : lv_has ls 1 [(0, .ref (ad 0))] := hl
  refine lv_aload_n hx hb dX3_room_0 rfl (lv_at hl 0 rfl) ?_
  refine va_get (D := D) (ci := 3) (v := .int (σ 0 3)) (C := RX3) (T := TX3) (N := 15) hx hb hts in3 hown hK hP 0 (me_get (by omega) (kk_0 cy ad _)) rfl 3 (by decide) k24 (fun _ h9 => h9) rfl dX3_room_1 ?_
  refine lv_bipush (v := nI 12) hx hb dX3_room_4 (by decide) ?_
  refine lv_iadd hx hb dX3_room_6 ?_
  refine lv_aload_n hx hb dX3_room_7 rfl (lv_at hl 0 rfl) ?_
  refine va_get (D := D) (ci := 3) (v := .int (σ 0 12)) (C := RX3) (T := TX3) (N := 15) hx hb hts in3 hown hK hP 0 (me_get (by omega) (kk_0 cy ad _)) rfl 12 (by decide) k56 (fun _ h9 => h9) rfl dX3_room_8 ?_
  refine lv_isub hx hb dX3_room_11 ?_
  exact me_retr hx hb hr rfl hlocks hK hP hD hS (by simp only [k_room]) dX3_room_12

def k_ph  (σ : me_M) : Int32 × me_M := if (σ 0 4) = 0 then ((nI 0, σ)) else (if (σ 0 4) ≤ 0 then (let s33 := me_st σ 0 6 ((σ 0 6) + (nI 1)); (nI 1, s33)) else (let s23 := me_st σ 0 4 ((σ 0 4) - (nI 1)); let s33 := me_st s23 0 6 ((s23 0 6) + (nI 1)); (nI 1, s33)))
set_option maxRecDepth 100000 in
set_option maxHeartbeats 4000000 in
theorem c_X3_powerHolds (l : Launch) (D : va_G) (cy : Nat → ClassId) (ad : Nat → Nat) (xr : va_W)  (σ : me_M)  (sz : Nat) : me_Ci l yX3_powerHolds wsX3_powerHolds ({ frames := 0, cells := 0, slots := 0, locals := 0 }) D (me_T cy) (kk_W cy ad xr) [.ref (ad 0)] sz σ (k_ph  σ) := by
  refine Met.ofW (cc := cX3_powerHolds) (maxL := 1) (ret := (some .boolean)) (by decide) rfl ?_
  intro p e st m args below meth c s₁ B hml hv
  obtain ⟨rfl, hsz, hP, hK, hD0⟩ := hv
  have hx := B.exec
  have hb := B.bytes
  have hr := B.returns
  have hts := atoms_spec (ws := wsX3_powerHolds) B.pre
  have hown : st.vm.findClass RX3 = some m.cls := findClass_of_methodNamed B.named
  have hlocks := B.notSynchronized
  have in3 : ∀ w ∈ u_ws RX3 TX3 15, w ∈ wsX3_powerHolds := by decide +kernel
  have k28 := hts (.fieldLink RX3 28 "TwinWrites" "sectorsLeft" "I") (by decide +kernel)
  have k35 := hts (.fieldLink RX3 35 "TwinWrites" "sectorsWritten" "I") (by decide +kernel)
  subst hsz
  have hD := hD0.self (sz := st.heap.size)
  have hA : ∀ q : Nat, st.heap.size ≤ q → va_A ((kk_W cy ad xr) σ) st.heap.size q := fun q h => Or.inr h
  have hS : va_S (va_A ((kk_W cy ad xr) σ) st.heap.size) st.heap st.heap [] := va_S.rf
  generalize va_A ((kk_W cy ad xr) σ) st.heap.size = A at hD hA hS ⊢
  have hl := lv_entry ([.ref (ad 0)]) (n := 1) (Nat.le_of_ble_eq_true rfl)
  rw [lg_entry_eq]
  generalize (lg_sl ([.ref (ad 0)]) ++ List.replicate (1 - (lg_sl ([.ref (ad 0)])).length) Slot.unset).toArray = ls at hl ⊢
  have hl : lv_has ls 1 [(0, .ref (ad 0))] := hl
  refine lv_aload_n hx hb dX3_powerHolds_0 rfl (lv_at hl 0 rfl) ?_
  refine va_get (D := D) (ci := 3) (v := .int (σ 0 4)) (C := RX3) (T := TX3) (N := 15) hx hb hts in3 hown hK hP 0 (me_get (by omega) (kk_0 cy ad _)) rfl 4 (by decide) k28 (fun _ h9 => h9) rfl dX3_powerHolds_1 ?_
  refine lv_if_ne (tgt := 9) hx hb dX3_powerHolds_4 (by decide) (fun c4 => ?_) (fun c4 => ?_)
  ·
    refine lv_aload_n hx hb dX3_powerHolds_9 rfl (lv_at hl 0 rfl) ?_
    refine va_get (D := D) (ci := 3) (v := .int (σ 0 4)) (C := RX3) (T := TX3) (N := 15) hx hb hts in3 hown hK hP 0 (me_get (by omega) (kk_0 cy ad _)) rfl 4 (by decide) k28 (fun _ h9 => h9) rfl dX3_powerHolds_10 ?_
    refine lv_if_le (tgt := 26) hx hb dX3_powerHolds_13 (by decide) (fun c13 => ?_) (fun c13 => ?_)
    ·
      refine lv_aload_n hx hb dX3_powerHolds_26 rfl (lv_at hl 0 rfl) ?_
      refine lv_dup hx hb dX3_powerHolds_27 rfl ?_
      refine va_get (D := D) (ci := 3) (v := .int (σ 0 6)) (C := RX3) (T := TX3) (N := 15) hx hb hts in3 hown hK hP 0 (me_get (by omega) (kk_0 cy ad _)) rfl 6 (by decide) k35 (fun _ h9 => h9) rfl dX3_powerHolds_28 ?_
      refine lv_iconst (v := nI 1) hx hb dX3_powerHolds_31 (by decide) ?_
      refine lv_iadd hx hb dX3_powerHolds_32 ?_
      refine me_put (ty := .int) (ci := 3) (C := RX3) (T := TX3) (M := 15) hx hb hts in3 tyX3 tyX3_ok nmX3 hown hK hP hD hS 0 (by omega) (kk_0 cy ad _) rfl 6 (by decide) k35 (fun _ h9 => h9) rfl (by decide +kernel) rfl rfl (Nat.le_of_ble_eq_true rfl) (kk_0 cy ad _) dX3_powerHolds_33 (fun s33 H locs e33 hP hD hS => ?_)
      refine lv_iconst (v := nI 1) hx hb dX3_powerHolds_36 (by decide) ?_
      exact me_reti hx hb hr rfl hlocks hK hP hD hS (by simp only [k_ph, if_neg c4, if_pos c13, e33]) dX3_powerHolds_37
    ·
      refine lv_aload_n hx hb dX3_powerHolds_16 rfl (lv_at hl 0 rfl) ?_
      refine lv_dup hx hb dX3_powerHolds_17 rfl ?_
      refine va_get (D := D) (ci := 3) (v := .int (σ 0 4)) (C := RX3) (T := TX3) (N := 15) hx hb hts in3 hown hK hP 0 (me_get (by omega) (kk_0 cy ad _)) rfl 4 (by decide) k28 (fun _ h9 => h9) rfl dX3_powerHolds_18 ?_
      refine lv_iconst (v := nI 1) hx hb dX3_powerHolds_21 (by decide) ?_
      refine lv_isub hx hb dX3_powerHolds_22 ?_
      refine me_put (ty := .int) (ci := 3) (C := RX3) (T := TX3) (M := 15) hx hb hts in3 tyX3 tyX3_ok nmX3 hown hK hP hD hS 0 (by omega) (kk_0 cy ad _) rfl 4 (by decide) k28 (fun _ h9 => h9) rfl (by decide +kernel) rfl rfl (Nat.le_of_ble_eq_true rfl) (kk_0 cy ad _) dX3_powerHolds_23 (fun s23 H locs e23 hP hD hS => ?_)
      refine lv_aload_n hx hb dX3_powerHolds_26 rfl (lv_at hl 0 rfl) ?_
      refine lv_dup hx hb dX3_powerHolds_27 rfl ?_
      refine va_get (D := D) (ci := 3) (v := .int (s23 0 6)) (C := RX3) (T := TX3) (N := 15) hx hb hts in3 hown hK hP 0 (me_get (by omega) (kk_0 cy ad _)) rfl 6 (by decide) k35 (fun _ h9 => h9) rfl dX3_powerHolds_28 ?_
      refine lv_iconst (v := nI 1) hx hb dX3_powerHolds_31 (by decide) ?_
      refine lv_iadd hx hb dX3_powerHolds_32 ?_
      refine me_put (ty := .int) (ci := 3) (C := RX3) (T := TX3) (M := 15) hx hb hts in3 tyX3 tyX3_ok nmX3 hown hK hP hD hS 0 (by omega) (kk_0 cy ad _) rfl 6 (by decide) k35 (fun _ h9 => h9) rfl (by decide +kernel) rfl rfl (Nat.le_of_ble_eq_true rfl) (kk_0 cy ad _) dX3_powerHolds_33 (fun s33 H locs e33 hP hD hS => ?_)
      refine lv_iconst (v := nI 1) hx hb dX3_powerHolds_36 (by decide) ?_
      exact me_reti hx hb hr rfl hlocks hK hP hD hS (by simp only [k_ph, if_neg c4, if_neg c13, e23, e33]) dX3_powerHolds_37
  ·
    refine lv_iconst (v := nI 0) hx hb dX3_powerHolds_7 (by decide) ?_
    exact me_reti hx hb hr rfl hlocks hK hP hD hS (by simp only [k_ph, if_pos c4]) dX3_powerHolds_8
