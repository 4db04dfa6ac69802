def k_fm (a : Int32) (b : Int32) : Int32 := if 0 ≤ (a ^^^ b) then (a - a / b * b) else (if (a - a / b * b) = 0 then (a - a / b * b) else ((a - a / b * b) + b))
set_option maxRecDepth 100000 in
set_option maxHeartbeats 4000000 in
theorem c_J9_floorMod_7cf53 (l : Launch) (a : Int32) (b : Int32) (hb0 : ¬ b = 0) : me_Cs l yJ9_floorMod_7cf53 wsJ9_floorMod_7cf53 ({ frames := 0, cells := 0, slots := 0, locals := 0 }) [.int a, .int b] (k_fm a b) := by
  refine va_MetF (cc := cJ9_floorMod_7cf53) (maxL := 3) (ret := (some .int)) (by decide +kernel) rfl ?_
  intro p e st m args below meth c s₁ B hml hv
  subst hv
  have hx := B.exec
  have hb := B.bytes
  have hr := B.returns
  have hts := atoms_spec (ws := wsJ9_floorMod_7cf53) B.pre
  have hown : st.vm.findClass RJ9 = some m.cls := findClass_of_methodNamed B.named
  have hlocks := B.notSynchronized
  have hl := lv_entry ([.int a, .int b]) (n := 3) (Nat.le_of_ble_eq_true rfl)
  rw [lg_entry_eq]
  generalize (lg_sl ([.int a, .int b]) ++ List.replicate (3 - (lg_sl ([.int a, .int b])).length) Slot.unset).toArray = ls at hl ⊢
  have hl : lv_has ls 3 [(0, .int a), (1, .int b)] := hl
  refine lv_iload_n hx hb dJ9_floorMod_7cf53_0 rfl (lv_at hl 0 rfl) ?_
  refine lv_iload_n hx hb dJ9_floorMod_7cf53_1 rfl (lv_at hl 1 rfl) ?_
  refine lv_irem hx hb dJ9_floorMod_7cf53_2 (hb0) ?_
  refine lv_istore_n (lv' := [(2, .int (a - a / b * b)), (0, .int a), (1, .int b)]) hx hb dJ9_floorMod_7cf53_3 rfl hl (by decide) rfl (fun ls hl => ?_)
  refine lv_iload_n hx hb dJ9_floorMod_7cf53_4 rfl (lv_at hl 1 rfl) ?_
  refine lv_iload_n hx hb dJ9_floorMod_7cf53_5 rfl (lv_at hl 2 rfl) ?_
  refine lv_ixor hx hb dJ9_floorMod_7cf53_6 ?_
  refine lv_if_ge (tgt := 18) hx hb dJ9_floorMod_7cf53_7 (by decide) (fun c7 => ?_) (fun c7 => ?_)
  ·
    refine lv_iload_n hx hb dJ9_floorMod_7cf53_18 rfl (lv_at hl 0 rfl) ?_
    exact me_rets hx hb hr rfl hlocks (by simp only [k_fm, if_pos c7]) dJ9_floorMod_7cf53_19
  ·
    refine lv_iload_n hx hb dJ9_floorMod_7cf53_10 rfl (lv_at hl 0 rfl) ?_
    refine lv_if_eq (tgt := 18) hx hb dJ9_floorMod_7cf53_11 (by decide) (fun c11 => ?_) (fun c11 => ?_)
    ·
      refine lv_iload_n hx hb dJ9_floorMod_7cf53_18 rfl (lv_at hl 0 rfl) ?_
      exact me_rets hx hb hr rfl hlocks (by simp only [k_fm, if_neg c7, if_pos c11]) dJ9_floorMod_7cf53_19
    ·
      refine lv_iload_n hx hb dJ9_floorMod_7cf53_14 rfl (lv_at hl 0 rfl) ?_
      refine lv_iload_n hx hb dJ9_floorMod_7cf53_15 rfl (lv_at hl 2 rfl) ?_
      refine lv_iadd hx hb dJ9_floorMod_7cf53_16 ?_
      exact me_rets hx hb hr rfl hlocks (by simp only [k_fm, if_neg c7, if_neg c11]) dJ9_floorMod_7cf53_17

def k_isIn (x : Int32) (z : Int32) : Int32 := if x < 0 then (nI 0) else (if z ≤ x then (nI 0) else (nI 1))
set_option maxRecDepth 100000 in
set_option maxHeartbeats 4000000 in
theorem c_X3_isIn (l : Launch) (x : Int32) (z : Int32)  : me_Cs l yX3_isIn wsX3_isIn ({ frames := 0, cells := 0, slots := 0, locals := 0 }) [.int x, .int z] (k_isIn x z) := by
  refine Met.ofW (cc := cX3_isIn) (maxL := 2) (ret := (some .boolean)) (by decide +kernel) rfl ?_
  intro p e st m args below meth c s₁ B hml hv
  subst hv
  have hx := B.exec
  have hb := B.bytes
  have hr := B.returns
  have hts := atoms_spec (ws := wsX3_isIn) B.pre
  have hown : st.vm.findClass RX3 = some m.cls := findClass_of_methodNamed B.named
  have hlocks := B.notSynchronized
  have hl := lv_entry ([.int x, .int z]) (n := 2) (Nat.le_of_ble_eq_true rfl)
  rw [lg_entry_eq]
  generalize (lg_sl ([.int x, .int z]) ++ List.replicate (2 - (lg_sl ([.int x, .int z])).length) Slot.unset).toArray = ls at hl ⊢
  have hl : lv_has ls 2 [(0, .int x), (1, .int z)] := hl
  refine lv_iload_n hx hb dX3_isIn_0 rfl (lv_at hl 0 rfl) ?_
  refine lv_if_lt (tgt := 13) hx hb dX3_isIn_1 (by decide) (fun c1 => ?_) (fun c1 => ?_)
  ·
    refine lv_iconst (v := nI 0) hx hb dX3_isIn_13 (by decide) ?_
    exact me_rets hx hb hr rfl hlocks (by simp only [k_isIn, if_pos c1]) dX3_isIn_14
  ·
    refine lv_iload_n hx hb dX3_isIn_4 rfl (lv_at hl 0 rfl) ?_
    refine lv_iload_n hx hb dX3_isIn_5 rfl (lv_at hl 1 rfl) ?_
    refine lv_icmp_ge (tgt := 13) hx hb dX3_isIn_6 (by decide) (fun c6 => ?_) (fun c6 => ?_)
    ·
      refine lv_iconst (v := nI 0) hx hb dX3_isIn_13 (by decide) ?_
      exact me_rets hx hb hr rfl hlocks (by simp only [k_isIn, if_neg c1, if_pos c6]) dX3_isIn_14
    ·
      refine lv_iconst (v := nI 1) hx hb dX3_isIn_9 (by decide) ?_
      refine lv_goto (tgt := 14) hx hb dX3_isIn_10 (by decide) ?_
      exact me_rets hx hb hr rfl hlocks (by simp only [k_isIn, if_neg c1, if_neg c6]) dX3_isIn_14

def k_set (a : Nat) (x0 : Int32) (x1 : Int32) (x2 : Int32) (x3 : Int32) (σ : me_M) : me_M := let s2 := me_st σ a 0 x0; let s7 := me_st s2 a 1 x1; let s12 := me_st s7 a 2 x2; let s18 := me_st s12 a 3 x3; s18
set_option maxRecDepth 100000 in
set_option maxHeartbeats 4000000 in
theorem c_X0_set (l : Launch) (D : va_G) (cy : Nat → ClassId) (ad : Nat → Nat) (xr : va_W) (a : Nat) (x0 : Int32) (x1 : Int32) (x2 : Int32) (x3 : Int32) (σ : me_M) (ha : 70 ≤ a ∧ a < 94) (sz : Nat) : me_Cv l yX0_set wsX0_set ({ frames := 0, cells := 0, slots := 0, locals := 0 }) D (me_T cy) (kk_W cy ad xr) [.ref (ad a), .int x0, .int x1, .int x2, .int x3] sz σ (k_set a x0 x1 x2 x3 σ) := by
  refine Met.ofW (cc := cX0_set) (maxL := 5) (ret := none) (by decide) rfl ?_
  intro p e st m args below meth c s₁ B hml hv
  obtain ⟨rfl, hsz, hP, hK, hD0⟩ := hv
  have hx := B.exec
  have hb := B.bytes
  have hr := B.returns
  have hts := atoms_spec (ws := wsX0_set) B.pre
  have hown : st.vm.findClass RX0 = some m.cls := findClass_of_methodNamed B.named
  have hlocks := B.notSynchronized
  have in0 : ∀ w ∈ u_ws RX0 TX0 4, w ∈ wsX0_set := by decide +kernel
  have k7 := hts (.fieldLink RX0 7 "TwinWrites$Change" "number" "I") (by decide +kernel)
  have k13 := hts (.fieldLink RX0 13 "TwinWrites$Change" "page" "I") (by decide +kernel)
  have k16 := hts (.fieldLink RX0 16 "TwinWrites$Change" "at" "I") (by decide +kernel)
  have k19 := hts (.fieldLink RX0 19 "TwinWrites$Change" "word" "I") (by decide +kernel)
  subst hsz
  have hD := hD0.self (sz := st.heap.size)
  have hA : ∀ q : Nat, st.heap.size ≤ q → va_A ((kk_W cy ad xr) σ) st.heap.size q := fun q h => Or.inr h
  have hS : va_S (va_A ((kk_W cy ad xr) σ) st.heap.size) st.heap st.heap [] := va_S.rf
  generalize va_A ((kk_W cy ad xr) σ) st.heap.size = A at hD hA hS ⊢
  have hl := lv_entry ([.ref (ad a), .int x0, .int x1, .int x2, .int x3]) (n := 5) (Nat.le_of_ble_eq_true rfl)
  rw [lg_entry_eq]
  generalize (lg_sl ([.ref (ad a), .int x0, .int x1, .int x2, .int x3]) ++ List.replicate (5 - (lg_sl ([.ref (ad a), .int x0, .int x1, .int x2, .int x3])).length) Slot.unset).toArray = ls at hl ⊢
  have hl : lv_has ls 5 [(0, .ref (ad a)), (1, .int x0), (2, .int x1), (3, .int x2), (4, .int x3)] := hl
  refine lv_aload_n hx hb dX0_set_0 rfl (lv_at hl 0 rfl) ?_
  refine lv_iload_n hx hb dX0_set_1 rfl (lv_at hl 1 rfl) ?_
  refine me_put (ty := .int) (ci := 0) (C := RX0) (T := TX0) (M := 4) hx hb hts in0 tyX0 tyX0_ok nmX0 hown hK hP hD hS a (by omega) (kk_ch cy ad (by omega) _) rfl 0 (by decide) k7 (fun _ h9 => h9) rfl (by decide +kernel) rfl rfl (Nat.le_of_ble_eq_true rfl) (kk_ch cy ad (by omega) _) dX0_set_2 (fun s2 H locs e2 hP hD hS => ?_)
  refine lv_aload_n hx hb dX0_set_5 rfl (lv_at hl 0 rfl) ?_
  refine lv_iload_n hx hb dX0_set_6 rfl (lv_at hl 2 rfl) ?_
  refine me_put (ty := .int) (ci := 0) (C := RX0) (T := TX0) (M := 4) hx hb hts in0 tyX0 tyX0_ok nmX0 hown hK hP hD hS a (by omega) (kk_ch cy ad (by omega) _) rfl 1 (by decide) k13 (fun _ h9 => h9) rfl (by decide +kernel) rfl rfl (Nat.le_of_ble_eq_true rfl) (kk_ch cy ad (by omega) _) dX0_set_7 (fun s7 H locs e7 hP hD hS => ?_)
  refine lv_aload_n hx hb dX0_set_10 rfl (lv_at hl 0 rfl) ?_
  refine lv_iload_n hx hb dX0_set_11 rfl (lv_at hl 3 rfl) ?_
  refine me_put (ty := .int) (ci := 0) (C := RX0) (T := TX0) (M := 4) hx hb hts in0 tyX0 tyX0_ok nmX0 hown hK hP hD hS a (by omega) (kk_ch cy ad (by omega) _) rfl 2 (by decide) k16 (fun _ h9 => h9) rfl (by decide +kernel) rfl rfl (Nat.le_of_ble_eq_true rfl) (kk_ch cy ad (by omega) _) dX0_set_12 (fun s12 H locs e12 hP hD hS => ?_)
  refine lv_aload_n hx hb dX0_set_15 rfl (lv_at hl 0 rfl) ?_
  refine lv_iload hx hb dX0_set_16 (lv_at hl 4 rfl) ?_
  refine me_put (ty := .int) (ci := 0) (C := RX0) (T := TX0) (M := 4) hx hb hts in0 tyX0 tyX0_ok nmX0 hown hK hP hD hS a (by omega) (kk_ch cy ad (by omega) _) rfl 3 (by decide) k19 (fun _ h9 => h9) rfl (by decide +kernel) rfl rfl (Nat.le_of_ble_eq_true rfl) (kk_ch cy ad (by omega) _) dX0_set_18 (fun s18 H locs e18 hP hD hS => ?_)
  exact me_retv hx hb hr hlocks hK hP hD hS (by simp only [k_set, e2, e7, e12, e18]) dX0_set_21

def k_copy (a : Nat) (b : Nat) (σ : me_M) : me_M := let s17 := k_set a (σ b 0) (σ b 1) (σ b 2) (σ b 3) σ; s17
set_option maxRecDepth 100000 in
set_option maxHeartbeats 4000000 in
theorem c_X0_copy (l : Launch) (D : va_G) (cy : Nat → ClassId) (ad : Nat → Nat) (xr : va_W) (a : Nat) (b : Nat) (σ : me_M) (ha : 70 ≤ a ∧ a < 94) (hc : 70 ≤ b ∧ b < 94) (sz : Nat) : me_Cv l yX0_copy wsX0_copy ({ frames := 1, cells := 0, slots := 0, locals := 24 }) D (me_T cy) (kk_W cy ad xr) [.ref (ad a), .ref (ad b)] sz σ (k_copy a b σ) := by
  refine Met.ofW (cc := cX0_copy) (maxL := 2) (ret := none) (by decide) rfl ?_
  intro p e st m args below meth c s₁ B hml hv
  obtain ⟨rfl, hsz, hP, hK, hD0⟩ := hv
  have hx := B.exec
  have hb := B.bytes
  have hr := B.returns
  have hts := atoms_spec (ws := wsX0_copy) B.pre
  have hown : st.vm.findClass RX0 = some m.cls := findClass_of_methodNamed B.named
  have hlocks := B.notSynchronized
  have in0 : ∀ w ∈ u_ws RX0 TX0 4, w ∈ wsX0_copy := by decide +kernel
  have k7 := hts (.fieldLink RX0 7 "TwinWrites$Change" "number" "I") (by decide +kernel)
  have k13 := hts (.fieldLink RX0 13 "TwinWrites$Change" "page" "I") (by decide +kernel)
  have k16 := hts (.fieldLink RX0 16 "TwinWrites$Change" "at" "I") (by decide +kernel)
  have k19 := hts (.fieldLink RX0 19 "TwinWrites$Change" "word" "I") (by decide +kernel)
  subst hsz
  have hD := hD0.self (sz := st.heap.size)
  have hA : ∀ q : Nat, st.heap.size ≤ q → va_A ((kk_W cy ad xr) σ) st.heap.size q := fun q h => Or.inr h
  have hS : va_S (va_A ((kk_W cy ad xr) σ) st.heap.size) st.heap st.heap [] := va_S.rf
  generalize va_A ((kk_W cy ad xr) σ) st.heap.size = A at hD hA hS ⊢
  have hl := lv_entry ([.ref (ad a), .ref (ad b)]) (n := 2) (Nat.le_of_ble_eq_true rfl)
  rw [lg_entry_eq]
  generalize (lg_sl ([.ref (ad a), .ref (ad b)]) ++ List.replicate (2 - (lg_sl ([.ref (ad a), .ref (ad b)])).length) Slot.unset).toArray = ls at hl ⊢
  have hl : lv_has ls 2 [(0, .ref (ad a)), (1, .ref (ad b))] := hl
  refine lv_aload_n hx hb dX0_copy_0 rfl (lv_at hl 0 rfl) ?_
  refine lv_aload_n hx hb dX0_copy_1 rfl (lv_at hl 1 rfl) ?_
  refine va_get (D := D) (ci := 0) (v := .int (σ b 0)) (C := RX0) (T := TX0) (N := 4) hx hb hts in0 hown hK hP b (me_get (by omega) (kk_ch cy ad (by omega) _)) rfl 0 (by decide) k7 (fun _ h9 => h9) rfl dX0_copy_2 ?_
  refine lv_aload_n hx hb dX0_copy_5 rfl (lv_at hl 1 rfl) ?_
  refine va_get (D := D) (ci := 0) (v := .int (σ b 1)) (C := RX0) (T := TX0) (N := 4) hx hb hts in0 hown hK hP b (me_get (by omega) (kk_ch cy ad (by omega) _)) rfl 1 (by decide) k13 (fun _ h9 => h9) rfl dX0_copy_6 ?_
  refine lv_aload_n hx hb dX0_copy_9 rfl (lv_at hl 1 rfl) ?_
  refine va_get (D := D) (ci := 0) (v := .int (σ b 2)) (C := RX0) (T := TX0) (N := 4) hx hb hts in0 hown hK hP b (me_get (by omega) (kk_ch cy ad (by omega) _)) rfl 2 (by decide) k16 (fun _ h9 => h9) rfl dX0_copy_10 ?_
  refine lv_aload_n hx hb dX0_copy_13 rfl (lv_at hl 1 rfl) ?_
  refine va_get (D := D) (ci := 0) (v := .int (σ b 3)) (C := RX0) (T := TX0) (N := 4) hx hb hts in0 hown hK hP b (me_get (by omega) (kk_ch cy ad (by omega) _)) rfl 3 (by decide) k19 (fun _ h9 => h9) rfl dX0_copy_14 ?_
  refine me_callv (f := k_set a (σ b 0) (σ b 1) (σ b 2) (σ b 3) σ) (w := (kk_W cy ad xr)) (σ := σ) (As := [.int (σ b 0), .int (σ b 1), .int (σ b 2), .int (σ b 3)]) (rest := []) ⟨hx, hb, hml, hown, hts⟩ (fun sz => c_X0_set l D cy ad xr a (σ b 0) (σ b 1) (σ b 2) (σ b 3) σ (by omega) sz) (cwV 4 hts gX0_copy_X0_set rfl rfl rfl (by decide +kernel) ⟨Nat.le_of_ble_eq_true rfl, Nat.le_of_ble_eq_true rfl⟩) (va_recv hK hP (ci := 0) (q0 := a) rfl (me_get (by omega) (kk_ch cy ad (by omega) _))) hK hP hD hS hA rfl hl.1 rfl (Nat.le_of_ble_eq_true rfl) dX0_copy_17 ⟨Nat.zero_le _, Nat.zero_le _⟩ (fun s17 H locs e17 hP hD hS => ?_)
  exact me_retv hx hb hr hlocks hK hP hD hS (by simp only [k_copy, e17]) dX0_copy_20

def k_cval (a : Nat) (x : Int32) (σ : me_M) : Int32 := if x = nI 0 then (σ a 0) else (if x = nI 1 then (σ a 1) else (if x = nI 2 then (σ a 2) else (σ a 3)))
set_option maxRecDepth 100000 in
set_option maxHeartbeats 4000000 in
theorem c_X0_value (l : Launch) (D : va_G) (cy : Nat → ClassId) (ad : Nat → Nat) (xr : va_W) (a : Nat) (x : Int32) (σ : me_M) (ha : 70 ≤ a ∧ a < 94) (sz : Nat) : me_Ci l yX0_value wsX0_value ({ frames := 0, cells := 0, slots := 0, locals := 0 }) D (me_T cy) (kk_W cy ad xr) [.ref (ad a), .int x] sz σ (k_cval a x σ, σ) := by
  refine Met.ofW (cc := cX0_value) (maxL := 2) (ret := (some .int)) (by decide) rfl ?_
  intro p e st m args below meth c s₁ B hml hv
  obtain ⟨rfl, hsz, hP, hK, hD0⟩ := hv
  have hx := B.exec
  have hb := B.bytes
  have hr := B.returns
  have hts := atoms_spec (ws := wsX0_value) B.pre
  have hown : st.vm.findClass RX0 = some m.cls := findClass_of_methodNamed B.named
  have hlocks := B.notSynchronized
  have in0 : ∀ w ∈ u_ws RX0 TX0 4, w ∈ wsX0_value := by decide +kernel
  have k7 := hts (.fieldLink RX0 7 "TwinWrites$Change" "number" "I") (by decide +kernel)
  have k13 := hts (.fieldLink RX0 13 "TwinWrites$Change" "page" "I") (by decide +kernel)
  have k16 := hts (.fieldLink RX0 16 "TwinWrites$Change" "at" "I") (by decide +kernel)
  have k19 := hts (.fieldLink RX0 19 "TwinWrites$Change" "word" "I") (by decide +kernel)
  subst hsz
  have hD := hD0.self (sz := st.heap.size)
  have hA : ∀ q : Nat, st.heap.size ≤ q → va_A ((kk_W cy ad xr) σ) st.heap.size q := fun q h => Or.inr h
  have hS : va_S (va_A ((kk_W cy ad xr) σ) st.heap.size) st.heap st.heap [] := va_S.rf
  generalize va_A ((kk_W cy ad xr) σ) st.heap.size = A at hD hA hS ⊢
  have hl := lv_entry ([.ref (ad a), .int x]) (n := 2) (Nat.le_of_ble_eq_true rfl)
  rw [lg_entry_eq]
  generalize (lg_sl ([.ref (ad a), .int x]) ++ List.replicate (2 - (lg_sl ([.ref (ad a), .int x])).length) Slot.unset).toArray = ls at hl ⊢
  have hl : lv_has ls 2 [(0, .ref (ad a)), (1, .int x)] := hl
  refine lv_iload_n hx hb dX0_value_0 rfl (lv_at hl 1 rfl) ?_
  by_cases c1_0 : x = nI 0
  ·
    refine me_top c1_0 ?_
    refine lv_tableIn (tgt := 28) hx hb dX0_value_1 (by decide) (by decide) (by rfl) (by decide) ?_
    refine lv_aload_n hx hb dX0_value_28 rfl (lv_at hl 0 rfl) ?_
    refine va_get (D := D) (ci := 0) (v := .int (σ a 0)) (C := RX0) (T := TX0) (N := 4) hx hb hts in0 hown hK hP a (me_get (by omega) (kk_ch cy ad (by omega) _)) rfl 0 (by decide) k7 (fun _ h9 => h9) rfl dX0_value_29 ?_
    exact me_retr hx hb hr rfl hlocks hK hP hD hS (by simp only [k_cval, if_pos c1_0]) dX0_value_32
  by_cases c1_1 : x = nI 1
  ·
    refine me_top c1_1 ?_
    refine lv_tableIn (tgt := 33) hx hb dX0_value_1 (by decide) (by decide) (by rfl) (by decide) ?_
    refine lv_aload_n hx hb dX0_value_33 rfl (lv_at hl 0 rfl) ?_
    refine va_get (D := D) (ci := 0) (v := .int (σ a 1)) (C := RX0) (T := TX0) (N := 4) hx hb hts in0 hown hK hP a (me_get (by omega) (kk_ch cy ad (by omega) _)) rfl 1 (by decide) k13 (fun _ h9 => h9) rfl dX0_value_34 ?_
    exact me_retr hx hb hr rfl hlocks hK hP hD hS (by simp only [k_cval, if_neg c1_0, if_pos c1_1]) dX0_value_37
  by_cases c1_2 : x = nI 2
  ·
    refine me_top c1_2 ?_
    refine lv_tableIn (tgt := 38) hx hb dX0_value_1 (by decide) (by decide) (by rfl) (by decide) ?_
    refine lv_aload_n hx hb dX0_value_38 rfl (lv_at hl 0 rfl) ?_
    refine va_get (D := D) (ci := 0) (v := .int (σ a 2)) (C := RX0) (T := TX0) (N := 4) hx hb hts in0 hown hK hP a (me_get (by omega) (kk_ch cy ad (by omega) _)) rfl 2 (by decide) k16 (fun _ h9 => h9) rfl dX0_value_39 ?_
    exact me_retr hx hb hr rfl hlocks hK hP hD hS (by simp only [k_cval, if_neg c1_0, if_neg c1_1, if_pos c1_2]) dX0_value_42
  have c1_o := me_out (x := x) (n := 3) (by decide) (by intro j hj; match j, hj with | 0, _ => exact c1_0 | 1, _ => exact c1_1 | 2, _ => exact c1_2 | (j + 3), hj => exact absurd hj (by omega))
  refine lv_tableOut (tgt := 43) hx hb dX0_value_1 (by omega) (by decide) ?_
  refine lv_aload_n hx hb dX0_value_43 rfl (lv_at hl 0 rfl) ?_
  refine va_get (D := D) (ci := 0) (v := .int (σ a 3)) (C := RX0) (T := TX0) (N := 4) hx hb hts in0 hown hK hP a (me_get (by omega) (kk_ch cy ad (by omega) _)) rfl 3 (by decide) k19 (fun _ h9 => h9) rfl dX0_value_44 ?_
  exact me_retr hx hb hr rfl hlocks hK hP hD hS (by simp only [k_cval, if_neg c1_0, if_neg c1_1, if_neg c1_2]) dX0_value_47
