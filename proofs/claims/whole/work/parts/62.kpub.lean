def k_mkv (a : Int32) (b : Int32) (σ : me_M) : me_F := if a = 0 then (if b = 0 then ((0, σ 0 3, σ)) else ((1, 0, σ))) else ((1, 0, σ))
set_option maxRecDepth 100000 in
set_option maxHeartbeats 4000000 in
theorem c_X3_markValue (l : Launch) (hln : l.stackTraces = false) (D : va_G) (cy : Nat → ClassId) (ad : Nat → Nat) (xr : va_W) (sa : Nat → Nat) (a : Int32) (b : Int32) (σ : me_M)  (sz : Nat) : me_Xi l yX3_markValue wsX3_markValue ({ frames := 6, cells := 1, slots := 6, locals := 82 }) D (me_T cy) (kk_W cy ad xr) [.ref (ad 0), .int a, .int b] sz σ sa (k_mkv a b σ) := by
  refine vx_ofW (cc := cX3_markValue) (maxL := 3) (ret := (some .int)) (by decide) rfl ?_
  intro p e st m args below meth c s₁ B hml ht hv
  obtain ⟨rfl, ⟨hsz, hP, hK, hD0⟩, hE⟩ := hv
  have hx := B.exec
  have hb := B.bytes
  have hr := B.returns
  have hts := atoms_spec (ws := wsX3_markValue) B.pre
  have hown : st.vm.findClass RX3 = some m.cls := findClass_of_methodNamed B.named
  have hlocks := B.notSynchronized
  have in3 : ∀ w ∈ u_ws RX3 TX3 15, w ∈ wsX3_markValue := by decide +kernel
  have k24 := hts (.fieldLink RX3 24 "TwinWrites" "mark" "I") (by decide +kernel)
  subst hsz
  have hD := hD0.self (sz := st.heap.size)
  have hA : ∀ q : Nat, st.heap.size ≤ q → va_A ((kk_W cy ad xr) σ) st.heap.size q := fun q h => Or.inr h
  have hS : va_S (va_A ((kk_W cy ad xr) σ) st.heap.size) st.heap st.heap [] := va_S.rf
  generalize va_A ((kk_W cy ad xr) σ) st.heap.size = A at hD hA hS hE ⊢
  have kl74 : (Cond.classLink RX3 74 (ex_N 1)).before ([.ref (ad 0), .int a, .int b] : List Value).toArray st = true := hts (.classLink RX3 74 "java/lang/IndexOutOfBoundsException") (by decide +kernel)
  have ki1 : (Cond.initialized (ex_N 1)).before ([.ref (ad 0), .int a, .int b] : List Value).toArray st = true := hts (.initialized "java/lang/IndexOutOfBoundsException") (by decide +kernel)
  have hl := lv_entry ([.ref (ad 0), .int a, .int b]) (n := 3) (Nat.le_of_ble_eq_true rfl)
  rw [lg_entry_eq]
  generalize (lg_sl ([.ref (ad 0), .int a, .int b]) ++ List.replicate (3 - (lg_sl ([.ref (ad 0), .int a, .int b])).length) Slot.unset).toArray = ls at hl ⊢
  have hl : lv_has ls 3 [(0, .ref (ad 0)), (1, .int a), (2, .int b)] := hl
  refine lv_iload_n hx hb dX3_markValue_0 rfl (lv_at hl 1 rfl) ?_
  refine lv_if_ne (tgt := 8) hx hb dX3_markValue_1 (by decide) (fun c1 => ?_) (fun c1 => ?_)
  ·
    exact me_xthr (names := ex_nm) (text := "the mark is one number") (sa := sa) hx hb hln 1 hown rfl ex_f1 ex_fn kl74 ki1 (by decide +kernel) (fun w hw => hts w (by first | exact List.mem_cons_of_mem _ (List.mem_append_right _ hw) | exact List.mem_cons_of_mem _ (List.mem_append_left _ (List.mem_append_right _ hw)))) ex_b1 ex_g1 hE hK hP hD hS (hl.1.trans hml.symm) dX3_markValue_8 dX3_markValue_11 dX3_markValue_12 dX3_markValue_14 dX3_markValue_17 ht (Nat.le_of_ble_eq_true rfl) (Nat.le_of_ble_eq_true rfl) (Nat.le_of_ble_eq_true rfl) (Nat.le_of_ble_eq_true rfl) hlocks (by decide) (by first | (simp only [k_mkv, if_neg c1]; done) | contradiction)
  ·
    refine lv_iload_n hx hb dX3_markValue_4 rfl (lv_at hl 2 rfl) ?_
    refine lv_if_eq (tgt := 18) hx hb dX3_markValue_5 (by decide) (fun c5 => ?_) (fun c5 => ?_)
    ·
      refine lv_aload_n hx hb dX3_markValue_18 rfl (lv_at hl 0 rfl) ?_
      refine va_get (D := D) (ci := 3) (v := .int (σ 0 3)) (C := RX3) (T := TX3) (N := 15) hx hb hts in3 hown hK hP 0 (me_get (by omega) (kk_0 cy ad _)) rfl 3 (by decide) k24 (fun _ h9 => h9) rfl dX3_markValue_19 ?_
      exact me_xreti hx hb hr rfl hlocks hK hP hD hS (Nat.le_of_ble_eq_true rfl) (Nat.le_of_ble_eq_true rfl) (by first | (simp only [k_mkv, if_pos c1, if_pos c5]; done) | contradiction) dX3_markValue_22
    ·
      exact me_xthr (names := ex_nm) (text := "the mark is one number") (sa := sa) hx hb hln 1 hown rfl ex_f1 ex_fn kl74 ki1 (by decide +kernel) (fun w hw => hts w (by first | exact List.mem_cons_of_mem _ (List.mem_append_right _ hw) | exact List.mem_cons_of_mem _ (List.mem_append_left _ (List.mem_append_right _ hw)))) ex_b1 ex_g1 hE hK hP hD hS (hl.1.trans hml.symm) dX3_markValue_8 dX3_markValue_11 dX3_markValue_12 dX3_markValue_14 dX3_markValue_17 ht (Nat.le_of_ble_eq_true rfl) (Nat.le_of_ble_eq_true rfl) (Nat.le_of_ble_eq_true rfl) (Nat.le_of_ble_eq_true rfl) hlocks (by decide) (by first | (simp only [k_mkv, if_pos c1, if_neg c5]; done) | contradiction)

def k_rcv (a : Int32) (b : Int32) (σ : me_M) : me_F := if (k_isIn a (nI 12)) = 0 then ((1, 0, σ)) else (if (k_isIn b (nI 4)) = 0 then ((1, 0, σ)) else (let r34 := k_cval (70 + 2 * a.toNatClampNeg) b σ; (0, r34, σ)))
set_option maxRecDepth 100000 in
set_option maxHeartbeats 4000000 in
theorem c_X3_recordValue (l : Launch) (hln : l.stackTraces = false) (D : va_G) (cy : Nat → ClassId) (ad : Nat → Nat) (xr : va_W) (sa : Nat → Nat) (a : Int32) (b : Int32) (σ : me_M)  (sz : Nat) : me_Xi l yX3_recordValue wsX3_recordValue ({ frames := 6, cells := 1, slots := 6, locals := 82 }) D (me_T cy) (kk_W cy ad xr) [.ref (ad 0), .int a, .int b] sz σ sa (k_rcv a b σ) := by
  refine vx_ofW (cc := cX3_recordValue) (maxL := 3) (ret := (some .int)) (by decide) rfl ?_
  intro p e st m args below meth c s₁ B hml ht hv
  obtain ⟨rfl, ⟨hsz, hP, hK, hD0⟩, hE⟩ := hv
  have hx := B.exec
  have hb := B.bytes
  have hr := B.returns
  have hts := atoms_spec (ws := wsX3_recordValue) B.pre
  have hown : st.vm.findClass RX3 = some m.cls := findClass_of_methodNamed B.named
  have hlocks := B.notSynchronized
  have in3 : ∀ w ∈ u_ws RX3 TX3 15, w ∈ wsX3_recordValue := by decide +kernel
  have k20 := hts (.fieldLink RX3 20 "TwinWrites" "log" "[LTwinWrites$Change;") (by decide +kernel)
  subst hsz
  have hD := hD0.self (sz := st.heap.size)
  have hA : ∀ q : Nat, st.heap.size ≤ q → va_A ((kk_W cy ad xr) σ) st.heap.size q := fun q h => Or.inr h
  have hS : va_S (va_A ((kk_W cy ad xr) σ) st.heap.size) st.heap st.heap [] := va_S.rf
  generalize va_A ((kk_W cy ad xr) σ) st.heap.size = A at hD hA hS hE ⊢
  have kl74 : (Cond.classLink RX3 74 (ex_N 1)).before ([.ref (ad 0), .int a, .int b] : List Value).toArray st = true := hts (.classLink RX3 74 "java/lang/IndexOutOfBoundsException") (by decide +kernel)
  have ki1 : (Cond.initialized (ex_N 1)).before ([.ref (ad 0), .int a, .int b] : List Value).toArray st = true := hts (.initialized "java/lang/IndexOutOfBoundsException") (by decide +kernel)
  have hl := lv_entry ([.ref (ad 0), .int a, .int b]) (n := 3) (Nat.le_of_ble_eq_true rfl)
  rw [lg_entry_eq]
  generalize (lg_sl ([.ref (ad 0), .int a, .int b]) ++ List.replicate (3 - (lg_sl ([.ref (ad 0), .int a, .int b])).length) Slot.unset).toArray = ls at hl ⊢
  have hl : lv_has ls 3 [(0, .ref (ad 0)), (1, .int a), (2, .int b)] := hl
  refine lv_iload_n hx hb dX3_recordValue_0 rfl (lv_at hl 1 rfl) ?_
  refine lv_bipush (v := nI 12) hx hb dX3_recordValue_1 (by decide) ?_
  refine me_calls (As := [.int a, .int (nI 12)]) (rest := []) ⟨hx, hb, hml, hown, hts⟩ (c_X3_isIn l a (nI 12) ) (cwS 2 hts gX3_recordValue_X3_isIn rfl rfl rfl (by decide +kernel) ⟨Nat.le_of_ble_eq_true rfl, Nat.le_of_ble_eq_true rfl⟩) rfl hl.1 rfl (Nat.le_of_ble_eq_true rfl) dX3_recordValue_3 ⟨Nat.zero_le _, Nat.zero_le _⟩ ?_
  refine lv_if_eq (tgt := 17) hx hb dX3_recordValue_6 (by decide) (fun c6 => ?_) (fun c6 => ?_)
  ·
    exact me_xthr (names := ex_nm) (text := "no such record or what") (sa := sa) hx hb hln 1 hown rfl ex_f1 ex_fn kl74 ki1 (by decide +kernel) (fun w hw => hts w (by first | exact List.mem_cons_of_mem _ (List.mem_append_right _ hw) | exact List.mem_cons_of_mem _ (List.mem_append_left _ (List.mem_append_right _ hw)))) ex_b1 ex_g1 hE hK hP hD hS (hl.1.trans hml.symm) dX3_recordValue_17 dX3_recordValue_20 dX3_recordValue_21 dX3_recordValue_23 dX3_recordValue_26 ht (Nat.le_of_ble_eq_true rfl) (Nat.le_of_ble_eq_true rfl) (Nat.le_of_ble_eq_true rfl) (Nat.le_of_ble_eq_true rfl) hlocks (by decide) (by first | (simp only [k_rcv, if_pos c6]; done) | contradiction)
  ·
    refine lv_iload_n hx hb dX3_recordValue_9 rfl (lv_at hl 2 rfl) ?_
    refine lv_iconst (v := nI 4) hx hb dX3_recordValue_10 (by decide) ?_
    refine me_calls (As := [.int b, .int (nI 4)]) (rest := []) ⟨hx, hb, hml, hown, hts⟩ (c_X3_isIn l b (nI 4) ) (cwS 2 hts gX3_recordValue_X3_isIn rfl rfl rfl (by decide +kernel) ⟨Nat.le_of_ble_eq_true rfl, Nat.le_of_ble_eq_true rfl⟩) rfl hl.1 rfl (Nat.le_of_ble_eq_true rfl) dX3_recordValue_11 ⟨Nat.zero_le _, Nat.zero_le _⟩ ?_
    refine lv_if_ne (tgt := 27) hx hb dX3_recordValue_14 (by decide) (fun c14 => ?_) (fun c14 => ?_)
    ·
      refine lv_aload_n hx hb dX3_recordValue_27 rfl (lv_at hl 0 rfl) ?_
      refine va_get (D := D) (ci := 3) (v := .ref (ad 3)) (C := RX3) (T := TX3) (N := 15) hx hb hts in3 hown hK hP 0 (me_get (by omega) (kk_0 cy ad _)) rfl 2 (by decide) k20 (fun _ h9 => h9) rfl dX3_recordValue_28 ?_
      refine lv_iload_n hx hb dX3_recordValue_31 rfl (lv_at hl 1 rfl) ?_
      have v32 : vp_in a 12 := pu_isIn c6
      have b32 := me_inb v32
      refine me_aald (g := fun j => ad (70 + 2 * j)) hx hb hK hP 3 4 (by omega) (fun f => kk_a3 cy ad f) rfl a.toNatClampNeg (me_ine v32) (by omega) (by decide) dX3_recordValue_32 ?_
      refine lv_iload_n hx hb dX3_recordValue_33 rfl (lv_at hl 2 rfl) ?_
      refine me_callr (f := k_cval (70 + 2 * a.toNatClampNeg) b σ) (w := (kk_W cy ad xr)) (σ := σ) (As := [.int b]) (rest := []) ⟨hx, hb, hml, hown, hts⟩ (fun sz => c_X0_value l D cy ad xr (70 + 2 * a.toNatClampNeg) b σ (by omega) sz) (cwV 1 hts gX3_recordValue_X0_value rfl rfl rfl (by decide +kernel) ⟨Nat.le_of_ble_eq_true rfl, Nat.le_of_ble_eq_true rfl⟩) (va_recv hK hP (ci := 0) (q0 := (70 + 2 * a.toNatClampNeg)) rfl (me_get (by omega) (kk_ch cy ad (by omega) _))) hK hP hD hS hA rfl hl.1 rfl (Nat.le_of_ble_eq_true rfl) dX3_recordValue_34 ⟨Nat.zero_le _, Nat.zero_le _⟩ (fun r34 H locs e34 hP hD hS => ?_)
      exact me_xreti hx hb hr rfl hlocks hK hP hD hS (Nat.le_of_ble_eq_true rfl) (Nat.le_of_ble_eq_true rfl) (by first | (simp only [k_rcv, if_neg c6, if_neg c14, e34]; done) | contradiction) dX3_recordValue_37
    ·
      exact me_xthr (names := ex_nm) (text := "no such record or what") (sa := sa) hx hb hln 1 hown rfl ex_f1 ex_fn kl74 ki1 (by decide +kernel) (fun w hw => hts w (by first | exact List.mem_cons_of_mem _ (List.mem_append_right _ hw) | exact List.mem_cons_of_mem _ (List.mem_append_left _ (List.mem_append_right _ hw)))) ex_b1 ex_g1 hE hK hP hD hS (hl.1.trans hml.symm) dX3_recordValue_17 dX3_recordValue_20 dX3_recordValue_21 dX3_recordValue_23 dX3_recordValue_26 ht (Nat.le_of_ble_eq_true rfl) (Nat.le_of_ble_eq_true rfl) (Nat.le_of_ble_eq_true rfl) (Nat.le_of_ble_eq_true rfl) hlocks (by decide) (by first | (simp only [k_rcv, if_neg c6, if_pos c14]; done) | contradiction)

def k_plvh (a : Int32) (b : Int32) (d : Nat) (σ : me_M) : me_F := if (k_isIn a (nI 12)) = 0 then ((1, 0, σ)) else (if (k_isIn b (nI d)) = 0 then ((1, 0, σ)) else (let r31 := k_pval a.toNatClampNeg b.toNatClampNeg σ; (0, r31, σ)))
set_option maxRecDepth 100000 in
set_option maxHeartbeats 4000000 in
theorem c_X3_placeValue_h (l : Launch) (hln : l.stackTraces = false) (D : va_G) (cy : Nat → ClassId) (ad : Nat → Nat) (xr : va_W) (sa : Nat → Nat) (a : Int32) (b : Int32) (d : Nat) (σ : me_M) (hd : d ≤ 24) (sz : Nat) : me_Xi l yX3_placeValue wsX3_placeValue ({ frames := 6, cells := 1, slots := 6, locals := 82 }) D (me_T cy) (kk_W cy ad xr) [.ref (ad 1), .int a, .int b, .int (nI d)] sz σ sa (k_plvh a b d σ) := by
  refine vx_ofW (cc := cX3_placeValue) (maxL := 4) (ret := (some .int)) (by decide) rfl ?_
  intro p e st m args below meth c s₁ B hml ht hv
  obtain ⟨rfl, ⟨hsz, hP, hK, hD0⟩, hE⟩ := hv
  have hx := B.exec
  have hb := B.bytes
  have hr := B.returns
  have hts := atoms_spec (ws := wsX3_placeValue) B.pre
  have hown : st.vm.findClass RX3 = some m.cls := findClass_of_methodNamed B.named
  have hlocks := B.notSynchronized
  subst hsz
  have hD := hD0.self (sz := st.heap.size)
  have hA : ∀ q : Nat, st.heap.size ≤ q → va_A ((kk_W cy ad xr) σ) st.heap.size q := fun q h => Or.inr h
  have hS : va_S (va_A ((kk_W cy ad xr) σ) st.heap.size) st.heap st.heap [] := va_S.rf
  generalize va_A ((kk_W cy ad xr) σ) st.heap.size = A at hD hA hS hE ⊢
  have kl74 : (Cond.classLink RX3 74 (ex_N 1)).before ([.ref (ad 1), .int a, .int b, .int (nI d)] : List Value).toArray st = true := hts (.classLink RX3 74 "java/lang/IndexOutOfBoundsException") (by decide +kernel)
  have ki1 : (Cond.initialized (ex_N 1)).before ([.ref (ad 1), .int a, .int b, .int (nI d)] : List Value).toArray st = true := hts (.initialized "java/lang/IndexOutOfBoundsException") (by decide +kernel)
  have hl := lv_entry ([.ref (ad 1), .int a, .int b, .int (nI d)]) (n := 4) (Nat.le_of_ble_eq_true rfl)
  rw [lg_entry_eq]
  generalize (lg_sl ([.ref (ad 1), .int a, .int b, .int (nI d)]) ++ List.replicate (4 - (lg_sl ([.ref (ad 1), .int a, .int b, .int (nI d)])).length) Slot.unset).toArray = ls at hl ⊢
  have hl : lv_has ls 4 [(0, .ref (ad 1)), (1, .int a), (2, .int b), (3, .int (nI d))] := hl
  refine lv_iload_n hx hb dX3_placeValue_0 rfl (lv_at hl 1 rfl) ?_
  refine lv_aload_n hx hb dX3_placeValue_1 rfl (lv_at hl 0 rfl) ?_
  refine va_alen (v := nI 12) hx hb hK hP 1 3 (me_get (by omega) ((fun f => kk_a1 cy ad f) _)) rfl rfl dX3_placeValue_2 ?_
  refine me_calls (As := [.int a, .int (nI 12)]) (rest := []) ⟨hx, hb, hml, hown, hts⟩ (c_X3_isIn l a (nI 12) ) (cwS 2 hts gX3_placeValue_X3_isIn rfl rfl rfl (by decide +kernel) ⟨Nat.le_of_ble_eq_true rfl, Nat.le_of_ble_eq_true rfl⟩) rfl hl.1 rfl (Nat.le_of_ble_eq_true rfl) dX3_placeValue_3 ⟨Nat.zero_le _, Nat.zero_le _⟩ ?_
  refine lv_if_eq (tgt := 17) hx hb dX3_placeValue_6 (by decide) (fun c6 => ?_) (fun c6 => ?_)
  ·
    exact me_xthr (names := ex_nm) (text := "no such place, word or sector") (sa := sa) hx hb hln 1 hown rfl ex_f1 ex_fn kl74 ki1 (by decide +kernel) (fun w hw => hts w (by first | exact List.mem_cons_of_mem _ (List.mem_append_right _ hw) | exact List.mem_cons_of_mem _ (List.mem_append_left _ (List.mem_append_right _ hw)))) ex_b1 ex_g1 hE hK hP hD hS (hl.1.trans hml.symm) dX3_placeValue_17 dX3_placeValue_20 dX3_placeValue_21 dX3_placeValue_23 dX3_placeValue_26 ht (Nat.le_of_ble_eq_true rfl) (Nat.le_of_ble_eq_true rfl) (Nat.le_of_ble_eq_true rfl) (Nat.le_of_ble_eq_true rfl) hlocks (by decide) (by first | (simp only [k_plvh, if_pos c6]; done) | contradiction)
  ·
    refine lv_iload_n hx hb dX3_placeValue_9 rfl (lv_at hl 2 rfl) ?_
    refine lv_iload_n hx hb dX3_placeValue_10 rfl (lv_at hl 3 rfl) ?_
    refine me_calls (As := [.int b, .int (nI d)]) (rest := []) ⟨hx, hb, hml, hown, hts⟩ (c_X3_isIn l b (nI d) ) (cwS 2 hts gX3_placeValue_X3_isIn rfl rfl rfl (by decide +kernel) ⟨Nat.le_of_ble_eq_true rfl, Nat.le_of_ble_eq_true rfl⟩) rfl hl.1 rfl (Nat.le_of_ble_eq_true rfl) dX3_placeValue_11 ⟨Nat.zero_le _, Nat.zero_le _⟩ ?_
    refine lv_if_ne (tgt := 27) hx hb dX3_placeValue_14 (by decide) (fun c14 => ?_) (fun c14 => ?_)
    ·
      refine lv_aload_n hx hb dX3_placeValue_27 rfl (lv_at hl 0 rfl) ?_
      refine lv_iload_n hx hb dX3_placeValue_28 rfl (lv_at hl 1 rfl) ?_
      have v29 : vp_in a 12 := pu_isIn c6
      have b29 := me_inb v29
      refine me_aald (g := fun j => ad (6 + 4 * j)) hx hb hK hP 1 3 (by omega) (fun f => kk_a1 cy ad f) rfl a.toNatClampNeg (me_ine v29) (by omega) (by decide) dX3_placeValue_29 ?_
      refine lv_iload_n hx hb dX3_placeValue_30 rfl (lv_at hl 2 rfl) ?_
      have v31_t : vp_in b d := pu_isIn c14
      have b31_t := me_inb v31_t
      have q31_t : b = nI b.toNatClampNeg := me_ine v31_t
      refine me_callr (f := k_pval a.toNatClampNeg b.toNatClampNeg σ) (w := (kk_W cy ad xr)) (σ := σ) (As := [.int b]) (rest := []) ⟨hx, hb, hml, hown, hts⟩ (fun sz => me_av (av := [.ref (ad (6 + 4 * a.toNatClampNeg)), .int (nI b.toNatClampNeg)]) (by simp only [← q31_t]) (c_X2_value l D cy ad xr a.toNatClampNeg b.toNatClampNeg σ (by omega) (by omega) sz)) (cwV 1 hts gX3_placeValue_X2_value rfl rfl rfl (by decide +kernel) ⟨Nat.le_of_ble_eq_true rfl, Nat.le_of_ble_eq_true rfl⟩) (va_recv hK hP (ci := 2) (q0 := (6 + 4 * a.toNatClampNeg)) rfl (me_get (by omega) (kk_pl cy ad (by omega) _))) hK hP hD hS hA rfl hl.1 rfl (Nat.le_of_ble_eq_true rfl) dX3_placeValue_31 ⟨Nat.zero_le _, Nat.zero_le _⟩ (fun r31 H locs e31 hP hD hS => ?_)
      exact me_xreti hx hb hr rfl hlocks hK hP hD hS (Nat.le_of_ble_eq_true rfl) (Nat.le_of_ble_eq_true rfl) (by first | (simp only [k_plvh, if_neg c6, if_neg c14, e31]; done) | contradiction) dX3_placeValue_34
    ·
      exact me_xthr (names := ex_nm) (text := "no such place, word or sector") (sa := sa) hx hb hln 1 hown rfl ex_f1 ex_fn kl74 ki1 (by decide +kernel) (fun w hw => hts w (by first | exact List.mem_cons_of_mem _ (List.mem_append_right _ hw) | exact List.mem_cons_of_mem _ (List.mem_append_left _ (List.mem_append_right _ hw)))) ex_b1 ex_g1 hE hK hP hD hS (hl.1.trans hml.symm) dX3_placeValue_17 dX3_placeValue_20 dX3_placeValue_21 dX3_placeValue_23 dX3_placeValue_26 ht (Nat.le_of_ble_eq_true rfl) (Nat.le_of_ble_eq_true rfl) (Nat.le_of_ble_eq_true rfl) (Nat.le_of_ble_eq_true rfl) hlocks (by decide) (by first | (simp only [k_plvh, if_neg c6, if_pos c14]; done) | contradiction)

def k_plvs (a : Int32) (b : Int32) (d : Nat) (σ : me_M) : me_F := if (k_isIn a (nI 4)) = 0 then ((1, 0, σ)) else (if (k_isIn b (nI d)) = 0 then ((1, 0, σ)) else (let r31 := k_pval ((12 + a.toNatClampNeg)) b.toNatClampNeg σ; (0, r31, σ)))
set_option maxRecDepth 100000 in
set_option maxHeartbeats 4000000 in
theorem c_X3_placeValue_s (l : Launch) (hln : l.stackTraces = false) (D : va_G) (cy : Nat → ClassId) (ad : Nat → Nat) (xr : va_W) (sa : Nat → Nat) (a : Int32) (b : Int32) (d : Nat) (σ : me_M) (hd : d ≤ 24) (sz : Nat) : me_Xi l yX3_placeValue wsX3_placeValue ({ frames := 6, cells := 1, slots := 6, locals := 82 }) D (me_T cy) (kk_W cy ad xr) [.ref (ad 2), .int a, .int b, .int (nI d)] sz σ sa (k_plvs a b d σ) := by
  refine vx_ofW (cc := cX3_placeValue) (maxL := 4) (ret := (some .int)) (by decide) rfl ?_
  intro p e st m args below meth c s₁ B hml ht hv
  obtain ⟨rfl, ⟨hsz, hP, hK, hD0⟩, hE⟩ := hv
  have hx := B.exec
  have hb := B.bytes
  have hr := B.returns
  have hts := atoms_spec (ws := wsX3_placeValue) B.pre
  have hown : st.vm.findClass RX3 = some m.cls := findClass_of_methodNamed B.named
  have hlocks := B.notSynchronized
  subst hsz
  have hD := hD0.self (sz := st.heap.size)
  have hA : ∀ q : Nat, st.heap.size ≤ q → va_A ((kk_W cy ad xr) σ) st.heap.size q := fun q h => Or.inr h
  have hS : va_S (va_A ((kk_W cy ad xr) σ) st.heap.size) st.heap st.heap [] := va_S.rf
  generalize va_A ((kk_W cy ad xr) σ) st.heap.size = A at hD hA hS hE ⊢
  have kl74 : (Cond.classLink RX3 74 (ex_N 1)).before ([.ref (ad 2), .int a, .int b, .int (nI d)] : List Value).toArray st = true := hts (.classLink RX3 74 "java/lang/IndexOutOfBoundsException") (by decide +kernel)
  have ki1 : (Cond.initialized (ex_N 1)).before ([.ref (ad 2), .int a, .int b, .int (nI d)] : List Value).toArray st = true := hts (.initialized "java/lang/IndexOutOfBoundsException") (by decide +kernel)
  have hl := lv_entry ([.ref (ad 2), .int a, .int b, .int (nI d)]) (n := 4) (Nat.le_of_ble_eq_true rfl)
  rw [lg_entry_eq]
  generalize (lg_sl ([.ref (ad 2), .int a, .int b, .int (nI d)]) ++ List.replicate (4 - (lg_sl ([.ref (ad 2), .int a, .int b, .int (nI d)])).length) Slot.unset).toArray = ls at hl ⊢
  have hl : lv_has ls 4 [(0, .ref (ad 2)), (1, .int a), (2, .int b), (3, .int (nI d))] := hl
  refine lv_iload_n hx hb dX3_placeValue_0 rfl (lv_at hl 1 rfl) ?_
  refine lv_aload_n hx hb dX3_placeValue_1 rfl (lv_at hl 0 rfl) ?_
  refine va_alen (v := nI 4) hx hb hK hP 2 3 (me_get (by omega) ((fun f => kk_a2 cy ad f) _)) rfl rfl dX3_placeValue_2 ?_
  refine me_calls (As := [.int a, .int (nI 4)]) (rest := []) ⟨hx, hb, hml, hown, hts⟩ (c_X3_isIn l a (nI 4) ) (cwS 2 hts gX3_placeValue_X3_isIn rfl rfl rfl (by decide +kernel) ⟨Nat.le_of_ble_eq_true rfl, Nat.le_of_ble_eq_true rfl⟩) rfl hl.1 rfl (Nat.le_of_ble_eq_true rfl) dX3_placeValue_3 ⟨Nat.zero_le _, Nat.zero_le _⟩ ?_
  refine lv_if_eq (tgt := 17) hx hb dX3_placeValue_6 (by decide) (fun c6 => ?_) (fun c6 => ?_)
  ·
    exact me_xthr (names := ex_nm) (text := "no such place, word or sector") (sa := sa) hx hb hln 1 hown rfl ex_f1 ex_fn kl74 ki1 (by decide +kernel) (fun w hw => hts w (by first | exact List.mem_cons_of_mem _ (List.mem_append_right _ hw) | exact List.mem_cons_of_mem _ (List.mem_append_left _ (List.mem_append_right _ hw)))) ex_b1 ex_g1 hE hK hP hD hS (hl.1.trans hml.symm) dX3_placeValue_17 dX3_placeValue_20 dX3_placeValue_21 dX3_placeValue_23 dX3_placeValue_26 ht (Nat.le_of_ble_eq_true rfl) (Nat.le_of_ble_eq_true rfl) (Nat.le_of_ble_eq_true rfl) (Nat.le_of_ble_eq_true rfl) hlocks (by decide) (by first | (simp only [k_plvs, if_pos c6]; done) | contradiction)
  ·
    refine lv_iload_n hx hb dX3_placeValue_9 rfl (lv_at hl 2 rfl) ?_
    refine lv_iload_n hx hb dX3_placeValue_10 rfl (lv_at hl 3 rfl) ?_
    refine me_calls (As := [.int b, .int (nI d)]) (rest := []) ⟨hx, hb, hml, hown, hts⟩ (c_X3_isIn l b (nI d) ) (cwS 2 hts gX3_placeValue_X3_isIn rfl rfl rfl (by decide +kernel) ⟨Nat.le_of_ble_eq_true rfl, Nat.le_of_ble_eq_true rfl⟩) rfl hl.1 rfl (Nat.le_of_ble_eq_true rfl) dX3_placeValue_11 ⟨Nat.zero_le _, Nat.zero_le _⟩ ?_
    refine lv_if_ne (tgt := 27) hx hb dX3_placeValue_14 (by decide) (fun c14 => ?_) (fun c14 => ?_)
    ·
      refine lv_aload_n hx hb dX3_placeValue_27 rfl (lv_at hl 0 rfl) ?_
      refine lv_iload_n hx hb dX3_placeValue_28 rfl (lv_at hl 1 rfl) ?_
      have v29 : vp_in a 4 := pu_isIn c6
      have b29 := me_inb v29
      refine me_aald (g := fun j => ad (6 + 4 * (12 + j))) hx hb hK hP 2 3 (by omega) (fun f => kk_a2 cy ad f) rfl a.toNatClampNeg (me_ine v29) (by omega) (by decide) dX3_placeValue_29 ?_
      refine lv_iload_n hx hb dX3_placeValue_30 rfl (lv_at hl 2 rfl) ?_
      have v31_t : vp_in b d := pu_isIn c14
      have b31_t := me_inb v31_t
      have q31_t : b = nI b.toNatClampNeg := me_ine v31_t
      refine me_callr (f := k_pval ((12 + a.toNatClampNeg)) b.toNatClampNeg σ) (w := (kk_W cy ad xr)) (σ := σ) (As := [.int b]) (rest := []) ⟨hx, hb, hml, hown, hts⟩ (fun sz => me_av (av := [.ref (ad (6 + 4 * (12 + a.toNatClampNeg))), .int (nI b.toNatClampNeg)]) (by simp only [← q31_t]) (c_X2_value l D cy ad xr ((12 + a.toNatClampNeg)) b.toNatClampNeg σ (by omega) (by omega) sz)) (cwV 1 hts gX3_placeValue_X2_value rfl rfl rfl (by decide +kernel) ⟨Nat.le_of_ble_eq_true rfl, Nat.le_of_ble_eq_true rfl⟩) (va_recv hK hP (ci := 2) (q0 := (6 + 4 * (12 + a.toNatClampNeg))) rfl (me_get (by omega) (kk_pl cy ad (by omega) _))) hK hP hD hS hA rfl hl.1 rfl (Nat.le_of_ble_eq_true rfl) dX3_placeValue_31 ⟨Nat.zero_le _, Nat.zero_le _⟩ (fun r31 H locs e31 hP hD hS => ?_)
      exact me_xreti hx hb hr rfl hlocks hK hP hD hS (Nat.le_of_ble_eq_true rfl) (Nat.le_of_ble_eq_true rfl) (by first | (simp only [k_plvs, if_neg c6, if_neg c14, e31]; done) | contradiction) dX3_placeValue_34
    ·
      exact me_xthr (names := ex_nm) (text := "no such place, word or sector") (sa := sa) hx hb hln 1 hown rfl ex_f1 ex_fn kl74 ki1 (by decide +kernel) (fun w hw => hts w (by first | exact List.mem_cons_of_mem _ (List.mem_append_right _ hw) | exact List.mem_cons_of_mem _ (List.mem_append_left _ (List.mem_append_right _ hw)))) ex_b1 ex_g1 hE hK hP hD hS (hl.1.trans hml.symm) dX3_placeValue_17 dX3_placeValue_20 dX3_placeValue_21 dX3_placeValue_23 dX3_placeValue_26 ht (Nat.le_of_ble_eq_true rfl) (Nat.le_of_ble_eq_true rfl) (Nat.le_of_ble_eq_true rfl) (Nat.le_of_ble_eq_true rfl) hlocks (by decide) (by first | (simp only [k_plvs, if_neg c6, if_pos c14]; done) | contradiction)

def k_disk (a : Int32) (b : Int32) (d : Int32) (σ : me_M) : me_F := if a = nI 0 then (let q40 := k_plvh b d 20 σ; let k40 := q40.1; let r40 := q40.2.1; let s40 := q40.2.2; if k40 = 0 then ((0, r40, s40)) else (k40, 0, s40)) else (if a = nI 1 then (let q52 := k_plvs b d 24 σ; let k52 := q52.1; let r52 := q52.2.1; let s52 := q52.2.2; if k52 = 0 then ((0, r52, s52)) else (k52, 0, s52)) else (if a = nI 2 then (let q59 := k_rcv b d σ; let k59 := q59.1; let r59 := q59.2.1; let s59 := q59.2.2; if k59 = 0 then ((0, r59, s59)) else (k59, 0, s59)) else (if a = nI 3 then (let q66 := k_mkv b d σ; let k66 := q66.1; let r66 := q66.2.1; let s66 := q66.2.2; if k66 = 0 then ((0, r66, s66)) else (k66, 0, s66)) else ((1, 0, σ)))))
set_option maxRecDepth 100000 in
set_option maxHeartbeats 4000000 in
theorem c_X3_disk (l : Launch) (hln : l.stackTraces = false) (D : va_G) (cy : Nat → ClassId) (ad : Nat → Nat) (xr : va_W) (sa : Nat → Nat) (a : Int32) (b : Int32) (d : Int32) (σ : me_M)  (sz : Nat) : me_Xi l yX3_disk wsX3_disk ({ frames := 7, cells := 1, slots := 6, locals := 105 }) D (me_T cy) (kk_W cy ad xr) [.ref (ad 0), .int a, .int b, .int d] sz σ sa (k_disk a b d σ) := by
  refine vx_ofW (cc := cX3_disk) (maxL := 4) (ret := (some .int)) (by decide) rfl ?_
  intro p e st m args below meth c s₁ B hml ht hv
  obtain ⟨rfl, ⟨hsz, hP, hK, hD0⟩, hE⟩ := hv
  have hx := B.exec
  have hb := B.bytes
  have hr := B.returns
  have hts := atoms_spec (ws := wsX3_disk) B.pre
  have hown : st.vm.findClass RX3 = some m.cls := findClass_of_methodNamed B.named
  have hlocks := B.notSynchronized
  have in3 : ∀ w ∈ u_ws RX3 TX3 15, w ∈ wsX3_disk := by decide +kernel
  have k11 := hts (.fieldLink RX3 11 "TwinWrites" "homes" "[LTwinWrites$Place;") (by decide +kernel)
  have k15 := hts (.fieldLink RX3 15 "TwinWrites" "slots" "[LTwinWrites$Place;") (by decide +kernel)
  subst hsz
  have hD := hD0.self (sz := st.heap.size)
  have hA : ∀ q : Nat, st.heap.size ≤ q → va_A ((kk_W cy ad xr) σ) st.heap.size q := fun q h => Or.inr h
  have hS : va_S (va_A ((kk_W cy ad xr) σ) st.heap.size) st.heap st.heap [] := va_S.rf
  generalize va_A ((kk_W cy ad xr) σ) st.heap.size = A at hD hA hS hE ⊢
  have kl74 : (Cond.classLink RX3 74 (ex_N 1)).before ([.ref (ad 0), .int a, .int b, .int d] : List Value).toArray st = true := hts (.classLink RX3 74 "java/lang/IndexOutOfBoundsException") (by decide +kernel)
  have ki1 : (Cond.initialized (ex_N 1)).before ([.ref (ad 0), .int a, .int b, .int d] : List Value).toArray st = true := hts (.initialized "java/lang/IndexOutOfBoundsException") (by decide +kernel)
  have hl := lv_entry ([.ref (ad 0), .int a, .int b, .int d]) (n := 4) (Nat.le_of_ble_eq_true rfl)
  rw [lg_entry_eq]
  generalize (lg_sl ([.ref (ad 0), .int a, .int b, .int d]) ++ List.replicate (4 - (lg_sl ([.ref (ad 0), .int a, .int b, .int d])).length) Slot.unset).toArray = ls at hl ⊢
  have hl : lv_has ls 4 [(0, .ref (ad 0)), (1, .int a), (2, .int b), (3, .int d)] := hl
  refine lv_iload_n hx hb dX3_disk_0 rfl (lv_at hl 1 rfl) ?_
  by_cases c1_0 : a = nI 0
  ·
    refine me_top c1_0 ?_
    refine lv_tableIn (tgt := 32) hx hb dX3_disk_1 (by decide) (by decide) (by rfl) (by decide) ?_
    refine lv_aload_n hx hb dX3_disk_32 rfl (lv_at hl 0 rfl) ?_
    refine va_get (D := D) (ci := 3) (v := .ref (ad 1)) (C := RX3) (T := TX3) (N := 15) hx hb hts in3 hown hK hP 0 (me_get (by omega) (kk_0 cy ad _)) rfl 0 (by decide) k11 (fun _ h9 => h9) rfl dX3_disk_33 ?_
    refine lv_iload_n hx hb dX3_disk_36 rfl (lv_at hl 2 rfl) ?_
    refine lv_iload_n hx hb dX3_disk_37 rfl (lv_at hl 3 rfl) ?_
    refine lv_bipush (v := nI 20) hx hb dX3_disk_38 (by decide) ?_
    refine me_xcalls (f := k_plvh b d 20 σ) (w := (kk_W cy ad xr)) (σ := σ) (sa := sa) (As := [.ref (ad 1), .int b, .int d, .int (nI 20)]) (rest := []) ⟨hx, hb, hml, hown, hts⟩ (fun sz => c_X3_placeValue_h l hln D cy ad xr sa b d 20 σ (by omega) sz) (cwS 4 hts gX3_disk_X3_placeValue rfl rfl rfl (by decide +kernel) ⟨Nat.le_of_ble_eq_true rfl, Nat.le_of_ble_eq_true rfl⟩) hE hK hP hD hS hA rfl hl.1 rfl (Nat.le_of_ble_eq_true rfl) dX3_disk_40 ⟨Nat.le_of_ble_eq_true rfl, Nat.le_of_ble_eq_true rfl⟩ (fun k40 s40 H locs q9 ce z40 e40 hP hD hS hc1 hc2 hc3 => me_xout ht hlocks hK hP hD hS hc1 hc2 hc3 z40 (by have z9 : ¬ k40 = 0 := Nat.pos_iff_ne_zero.mp z40; simp only [k_disk, if_pos c1_0, e40, if_neg z9])) (fun r40 s40 H locs e40 hP hD hS => ?_)
    exact me_xreti hx hb hr rfl hlocks hK hP hD hS (Nat.le_of_ble_eq_true rfl) (Nat.le_of_ble_eq_true rfl) (by first | (simp only [k_disk, if_pos c1_0, e40, eq_self, if_true]; done) | contradiction) dX3_disk_43
  by_cases c1_1 : a = nI 1
  ·
    refine me_top c1_1 ?_
    refine lv_tableIn (tgt := 44) hx hb dX3_disk_1 (by decide) (by decide) (by rfl) (by decide) ?_
    refine lv_aload_n hx hb dX3_disk_44 rfl (lv_at hl 0 rfl) ?_
    refine va_get (D := D) (ci := 3) (v := .ref (ad 2)) (C := RX3) (T := TX3) (N := 15) hx hb hts in3 hown hK hP 0 (me_get (by omega) (kk_0 cy ad _)) rfl 1 (by decide) k15 (fun _ h9 => h9) rfl dX3_disk_45 ?_
    refine lv_iload_n hx hb dX3_disk_48 rfl (lv_at hl 2 rfl) ?_
    refine lv_iload_n hx hb dX3_disk_49 rfl (lv_at hl 3 rfl) ?_
    refine lv_bipush (v := nI 24) hx hb dX3_disk_50 (by decide) ?_
    refine me_xcalls (f := k_plvs b d 24 σ) (w := (kk_W cy ad xr)) (σ := σ) (sa := sa) (As := [.ref (ad 2), .int b, .int d, .int (nI 24)]) (rest := []) ⟨hx, hb, hml, hown, hts⟩ (fun sz => c_X3_placeValue_s l hln D cy ad xr sa b d 24 σ (by omega) sz) (cwS 4 hts gX3_disk_X3_placeValue rfl rfl rfl (by decide +kernel) ⟨Nat.le_of_ble_eq_true rfl, Nat.le_of_ble_eq_true rfl⟩) hE hK hP hD hS hA rfl hl.1 rfl (Nat.le_of_ble_eq_true rfl) dX3_disk_52 ⟨Nat.le_of_ble_eq_true rfl, Nat.le_of_ble_eq_true rfl⟩ (fun k52 s52 H locs q9 ce z52 e52 hP hD hS hc1 hc2 hc3 => me_xout ht hlocks hK hP hD hS hc1 hc2 hc3 z52 (by have z9 : ¬ k52 = 0 := Nat.pos_iff_ne_zero.mp z52; simp only [k_disk, if_neg c1_0, if_pos c1_1, e52, if_neg z9])) (fun r52 s52 H locs e52 hP hD hS => ?_)
    exact me_xreti hx hb hr rfl hlocks hK hP hD hS (Nat.le_of_ble_eq_true rfl) (Nat.le_of_ble_eq_true rfl) (by first | (simp only [k_disk, if_neg c1_0, if_pos c1_1, e52, eq_self, if_true]; done) | contradiction) dX3_disk_55
  by_cases c1_2 : a = nI 2
  ·
    refine me_top c1_2 ?_
    refine lv_tableIn (tgt := 56) hx hb dX3_disk_1 (by decide) (by decide) (by rfl) (by decide) ?_
    refine lv_aload_n hx hb dX3_disk_56 rfl (lv_at hl 0 rfl) ?_
    refine lv_iload_n hx hb dX3_disk_57 rfl (lv_at hl 2 rfl) ?_
    refine lv_iload_n hx hb dX3_disk_58 rfl (lv_at hl 3 rfl) ?_
    refine me_xcalli (f := k_rcv b d σ) (w := (kk_W cy ad xr)) (σ := σ) (sa := sa) (As := [.int b, .int d]) (rest := []) ⟨hx, hb, hml, hown, hts⟩ (fun sz => c_X3_recordValue l hln D cy ad xr sa b d σ  sz) (cwV 2 hts gX3_disk_X3_recordValue rfl rfl rfl (by decide +kernel) ⟨Nat.le_of_ble_eq_true rfl, Nat.le_of_ble_eq_true rfl⟩) (va_recv hK hP (ci := 3) (q0 := 0) rfl (me_get (by omega) (kk_0 cy ad _))) hE hK hP hD hS hA rfl hl.1 rfl (Nat.le_of_ble_eq_true rfl) dX3_disk_59 ⟨Nat.le_of_ble_eq_true rfl, Nat.le_of_ble_eq_true rfl⟩ (fun k59 s59 H locs q9 ce z59 e59 hP hD hS hc1 hc2 hc3 => me_xout ht hlocks hK hP hD hS hc1 hc2 hc3 z59 (by have z9 : ¬ k59 = 0 := Nat.pos_iff_ne_zero.mp z59; simp only [k_disk, if_neg c1_0, if_neg c1_1, if_pos c1_2, e59, if_neg z9])) (fun r59 s59 H locs e59 hP hD hS => ?_)
    exact me_xreti hx hb hr rfl hlocks hK hP hD hS (Nat.le_of_ble_eq_true rfl) (Nat.le_of_ble_eq_true rfl) (by first | (simp only [k_disk, if_neg c1_0, if_neg c1_1, if_pos c1_2, e59, eq_self, if_true]; done) | contradiction) dX3_disk_62
  by_cases c1_3 : a = nI 3
  ·
    refine me_top c1_3 ?_
    refine lv_tableIn (tgt := 63) hx hb dX3_disk_1 (by decide) (by decide) (by rfl) (by decide) ?_
    refine lv_aload_n hx hb dX3_disk_63 rfl (lv_at hl 0 rfl) ?_
    refine lv_iload_n hx hb dX3_disk_64 rfl (lv_at hl 2 rfl) ?_
    refine lv_iload_n hx hb dX3_disk_65 rfl (lv_at hl 3 rfl) ?_
    refine me_xcalli (f := k_mkv b d σ) (w := (kk_W cy ad xr)) (σ := σ) (sa := sa) (As := [.int b, .int d]) (rest := []) ⟨hx, hb, hml, hown, hts⟩ (fun sz => c_X3_markValue l hln D cy ad xr sa b d σ  sz) (cwV 2 hts gX3_disk_X3_markValue rfl rfl rfl (by decide +kernel) ⟨Nat.le_of_ble_eq_true rfl, Nat.le_of_ble_eq_true rfl⟩) (va_recv hK hP (ci := 3) (q0 := 0) rfl (me_get (by omega) (kk_0 cy ad _))) hE hK hP hD hS hA rfl hl.1 rfl (Nat.le_of_ble_eq_true rfl) dX3_disk_66 ⟨Nat.le_of_ble_eq_true rfl, Nat.le_of_ble_eq_true rfl⟩ (fun k66 s66 H locs q9 ce z66 e66 hP hD hS hc1 hc2 hc3 => me_xout ht hlocks hK hP hD hS hc1 hc2 hc3 z66 (by have z9 : ¬ k66 = 0 := Nat.pos_iff_ne_zero.mp z66; simp only [k_disk, if_neg c1_0, if_neg c1_1, if_neg c1_2, if_pos c1_3, e66, if_neg z9])) (fun r66 s66 H locs e66 hP hD hS => ?_)
    exact me_xreti hx hb hr rfl hlocks hK hP hD hS (Nat.le_of_ble_eq_true rfl) (Nat.le_of_ble_eq_true rfl) (by first | (simp only [k_disk, if_neg c1_0, if_neg c1_1, if_neg c1_2, if_pos c1_3, e66, eq_self, if_true]; done) | contradiction) dX3_disk_69
  have c1_o := me_out (x := a) (n := 4) (by decide) (by intro j hj; match j, hj with | 0, _ => exact c1_0 | 1, _ => exact c1_1 | 2, _ => exact c1_2 | 3, _ => exact c1_3 | (j + 4), hj => exact absurd hj (by omega))
  refine lv_tableOut (tgt := 70) hx hb dX3_disk_1 (by omega) (by decide) ?_
  exact me_xthr (names := ex_nm) (text := "no such part of the disk") (sa := sa) hx hb hln 1 hown rfl ex_f1 ex_fn kl74 ki1 (by decide +kernel) (fun w hw => hts w (by first | exact List.mem_cons_of_mem _ (List.mem_append_right _ hw) | exact List.mem_cons_of_mem _ (List.mem_append_left _ (List.mem_append_right _ hw)))) ex_b1 ex_g1 hE hK hP hD hS (hl.1.trans hml.symm) dX3_disk_70 dX3_disk_73 dX3_disk_74 dX3_disk_76 dX3_disk_79 ht (Nat.le_of_ble_eq_true rfl) (Nat.le_of_ble_eq_true rfl) (Nat.le_of_ble_eq_true rfl) (Nat.le_of_ble_eq_true rfl) hlocks (by decide) (by first | (simp only [k_disk, if_neg c1_0, if_neg c1_1, if_neg c1_2, if_neg c1_3]; done) | contradiction)

def k_power (a : Int32) (σ : me_M) : me_F := if a < (-1) then ((1, 0, σ)) else (if a ≤ nI 10000 then (let s24 := me_st σ 0 4 a; (0, 0, s24)) else ((1, 0, σ)))
set_option maxRecDepth 100000 in
set_option maxHeartbeats 4000000 in
theorem c_X3_power (l : Launch) (hln : l.stackTraces = false) (D : va_G) (cy : Nat → ClassId) (ad : Nat → Nat) (xr : va_W) (sa : Nat → Nat) (a : Int32) (σ : me_M)  (sz : Nat) : me_Xv l yX3_power wsX3_power ({ frames := 6, cells := 1, slots := 6, locals := 82 }) D (me_T cy) (kk_W cy ad xr) [.ref (ad 0), .int a] sz σ sa (k_power a σ) := by
  refine vx_ofW (cc := cX3_power) (maxL := 2) (ret := none) (by decide) rfl ?_
  intro p e st m args below meth c s₁ B hml ht hv
  obtain ⟨rfl, ⟨hsz, hP, hK, hD0⟩, hE⟩ := hv
  have hx := B.exec
  have hb := B.bytes
  have hr := B.returns
  have hts := atoms_spec (ws := wsX3_power) B.pre
  have hown : st.vm.findClass RX3 = some m.cls := findClass_of_methodNamed B.named
  have hlocks := B.notSynchronized
  have in3 : ∀ w ∈ u_ws RX3 TX3 15, w ∈ wsX3_power := by decide +kernel
  have k28 := hts (.fieldLink RX3 28 "TwinWrites" "sectorsLeft" "I") (by decide +kernel)
  subst hsz
  have hD := hD0.self (sz := st.heap.size)
  have hA : ∀ q : Nat, st.heap.size ≤ q → va_A ((kk_W cy ad xr) σ) st.heap.size q := fun q h => Or.inr h
  have hS : va_S (va_A ((kk_W cy ad xr) σ) st.heap.size) st.heap st.heap [] := va_S.rf
  generalize va_A ((kk_W cy ad xr) σ) st.heap.size = A at hD hA hS hE ⊢
  have kl74 : (Cond.classLink RX3 74 (ex_N 1)).before ([.ref (ad 0), .int a] : List Value).toArray st = true := hts (.classLink RX3 74 "java/lang/IndexOutOfBoundsException") (by decide +kernel)
  have ki1 : (Cond.initialized (ex_N 1)).before ([.ref (ad 0), .int a] : List Value).toArray st = true := hts (.initialized "java/lang/IndexOutOfBoundsException") (by decide +kernel)
  have hl := lv_entry ([.ref (ad 0), .int a]) (n := 2) (Nat.le_of_ble_eq_true rfl)
  rw [lg_entry_eq]
  generalize (lg_sl ([.ref (ad 0), .int a]) ++ List.replicate (2 - (lg_sl ([.ref (ad 0), .int a])).length) Slot.unset).toArray = ls at hl ⊢
  have hl : lv_has ls 2 [(0, .ref (ad 0)), (1, .int a)] := hl
  refine lv_iload_n hx hb dX3_power_0 rfl (lv_at hl 1 rfl) ?_
  refine lv_iconst (v := (-1)) hx hb dX3_power_1 (by decide) ?_
  refine lv_icmp_lt (tgt := 12) hx hb dX3_power_2 (by decide) (fun c2 => ?_) (fun c2 => ?_)
  ·
    exact me_xthr (names := ex_nm) (text := "no such sector to come") (sa := sa) hx hb hln 1 hown rfl ex_f1 ex_fn kl74 ki1 (by decide +kernel) (fun w hw => hts w (by first | exact List.mem_cons_of_mem _ (List.mem_append_right _ hw) | exact List.mem_cons_of_mem _ (List.mem_append_left _ (List.mem_append_right _ hw)))) ex_b1 ex_g1 hE hK hP hD hS (hl.1.trans hml.symm) dX3_power_12 dX3_power_15 dX3_power_16 dX3_power_18 dX3_power_21 ht (Nat.le_of_ble_eq_true rfl) (Nat.le_of_ble_eq_true rfl) (Nat.le_of_ble_eq_true rfl) (Nat.le_of_ble_eq_true rfl) hlocks (by decide) (by first | (simp only [k_power, if_pos c2]; done) | contradiction)
  ·
    refine lv_iload_n hx hb dX3_power_5 rfl (lv_at hl 1 rfl) ?_
    refine lv_sipush (v := nI 10000) hx hb dX3_power_6 (by decide) ?_
    refine lv_icmp_le (tgt := 22) hx hb dX3_power_9 (by decide) (fun c9 => ?_) (fun c9 => ?_)
    ·
      refine lv_aload_n hx hb dX3_power_22 rfl (lv_at hl 0 rfl) ?_
      refine lv_iload_n hx hb dX3_power_23 rfl (lv_at hl 1 rfl) ?_
      refine me_put (ty := .int) (ci := 3) (C := RX3) (T := TX3) (M := 15) hx hb hts in3 tyX3 tyX3_ok nmX3 hown hK hP hD hS 0 (by omega) (kk_0 cy ad _) rfl 4 (by decide) k28 (fun _ h9 => h9) rfl (by decide +kernel) rfl rfl (Nat.le_of_ble_eq_true rfl) (kk_0 cy ad _) dX3_power_24 (fun s24 H locs e24 hP hD hS => ?_)
      exact me_xretv hx hb hr hlocks hK hP hD hS (Nat.le_of_ble_eq_true rfl) (Nat.le_of_ble_eq_true rfl) (by first | (simp only [k_power, if_neg c2, if_pos c9, e24]; done) | contradiction) dX3_power_27
    ·
      exact me_xthr (names := ex_nm) (text := "no such sector to come") (sa := sa) hx hb hln 1 hown rfl ex_f1 ex_fn kl74 ki1 (by decide +kernel) (fun w hw => hts w (by first | exact List.mem_cons_of_mem _ (List.mem_append_right _ hw) | exact List.mem_cons_of_mem _ (List.mem_append_left _ (List.mem_append_right _ hw)))) ex_b1 ex_g1 hE hK hP hD hS (hl.1.trans hml.symm) dX3_power_12 dX3_power_15 dX3_power_16 dX3_power_18 dX3_power_21 ht (Nat.le_of_ble_eq_true rfl) (Nat.le_of_ble_eq_true rfl) (Nat.le_of_ble_eq_true rfl) (Nat.le_of_ble_eq_true rfl) hlocks (by decide) (by first | (simp only [k_power, if_neg c2, if_neg c9]; done) | contradiction)

def k_cut  (σ : me_M) : me_F := if (σ 0 5) = 0 then (let s23 := k_down σ; (0, σ 0 11, s23)) else ((2, 0, σ))
set_option maxRecDepth 100000 in
set_option maxHeartbeats 4000000 in
theorem c_X3_cut (l : Launch) (hln : l.stackTraces = false) (D : va_G) (cy : Nat → ClassId) (ad : Nat → Nat) (xr : va_W) (sa : Nat → Nat)  (σ : me_M)  (sz : Nat) : me_Xi l yX3_cut wsX3_cut ({ frames := 6, cells := 1, slots := 6, locals := 82 }) D (me_T cy) (kk_W cy ad xr) [.ref (ad 0)] sz σ sa (k_cut  σ) := by
  refine vx_ofW (cc := cX3_cut) (maxL := 2) (ret := (some .int)) (by decide) rfl ?_
  intro p e st m args below meth c s₁ B hml ht hv
  obtain ⟨rfl, ⟨hsz, hP, hK, hD0⟩, hE⟩ := hv
  have hx := B.exec
  have hb := B.bytes
  have hr := B.returns
  have hts := atoms_spec (ws := wsX3_cut) B.pre
  have hown : st.vm.findClass RX3 = some m.cls := findClass_of_methodNamed B.named
  have hlocks := B.notSynchronized
  have in3 : ∀ w ∈ u_ws RX3 TX3 15, w ∈ wsX3_cut := by decide +kernel
  have k31 := hts (.fieldLink RX3 31 "TwinWrites" "down" "Z") (by decide +kernel)
  have k53 := hts (.fieldLink RX3 53 "TwinWrites" "waitingCount" "I") (by decide +kernel)
  subst hsz
  have hD := hD0.self (sz := st.heap.size)
  have hA : ∀ q : Nat, st.heap.size ≤ q → va_A ((kk_W cy ad xr) σ) st.heap.size q := fun q h => Or.inr h
  have hS : va_S (va_A ((kk_W cy ad xr) σ) st.heap.size) st.heap st.heap [] := va_S.rf
  generalize va_A ((kk_W cy ad xr) σ) st.heap.size = A at hD hA hS hE ⊢
  have kl83 : (Cond.classLink RX3 83 (ex_N 2)).before ([.ref (ad 0)] : List Value).toArray st = true := hts (.classLink RX3 83 "java/lang/IllegalStateException") (by decide +kernel)
  have ki2 : (Cond.initialized (ex_N 2)).before ([.ref (ad 0)] : List Value).toArray st = true := hts (.initialized "java/lang/IllegalStateException") (by decide +kernel)
  have hl := lv_entry ([.ref (ad 0)]) (n := 2) (Nat.le_of_ble_eq_true rfl)
  rw [lg_entry_eq]
  generalize (lg_sl ([.ref (ad 0)]) ++ List.replicate (2 - (lg_sl ([.ref (ad 0)])).length) Slot.unset).toArray = ls at hl ⊢
  have hl : lv_has ls 2 [(0, .ref (ad 0))] := hl
  refine lv_aload_n hx hb dX3_cut_0 rfl (lv_at hl 0 rfl) ?_
  refine va_get (D := D) (ci := 3) (v := .int (σ 0 5)) (C := RX3) (T := TX3) (N := 15) hx hb hts in3 hown hK hP 0 (me_get (by omega) (kk_0 cy ad _)) rfl 5 (by decide) k31 (fun _ h9 => h9) rfl dX3_cut_1 ?_
  refine lv_if_eq (tgt := 17) hx hb dX3_cut_4 (by decide) (fun c4 => ?_) (fun c4 => ?_)
  ·
    refine lv_aload_n hx hb dX3_cut_17 rfl (lv_at hl 0 rfl) ?_
    refine va_get (D := D) (ci := 3) (v := .int (σ 0 11)) (C := RX3) (T := TX3) (N := 15) hx hb hts in3 hown hK hP 0 (me_get (by omega) (kk_0 cy ad _)) rfl 11 (by decide) k53 (fun _ h9 => h9) rfl dX3_cut_18 ?_
    refine lv_istore_n (lv' := [(1, .int (σ 0 11)), (0, .ref (ad 0))]) hx hb dX3_cut_21 rfl hl (by decide) rfl (fun ls hl => ?_)
    refine lv_aload_n hx hb dX3_cut_22 rfl (lv_at hl 1 rfl) ?_
    refine me_callv (f := k_down σ) (w := (kk_W cy ad xr)) (σ := σ) (As := []) (rest := []) ⟨hx, hb, hml, hown, hts⟩ (fun sz => c_X3_goDown l D cy ad xr  σ  sz) (cwV 0 hts gX3_cut_X3_goDown rfl rfl rfl (by decide +kernel) ⟨Nat.le_of_ble_eq_true rfl, Nat.le_of_ble_eq_true rfl⟩) (va_recv hK hP (ci := 3) (q0 := 0) rfl (me_get (by omega) (kk_0 cy ad _))) hK hP hD hS hA rfl hl.1 rfl (Nat.le_of_ble_eq_true rfl) dX3_cut_23 ⟨Nat.zero_le _, Nat.zero_le _⟩ (fun s23 H locs e23 hP hD hS => ?_)
    refine lv_iload_n hx hb dX3_cut_26 rfl (lv_at hl 0 rfl) ?_
    exact me_xreti hx hb hr rfl hlocks hK hP hD hS (Nat.le_of_ble_eq_true rfl) (Nat.le_of_ble_eq_true rfl) (by first | (simp only [k_cut, if_pos c4, e23]; done) | contradiction) dX3_cut_27
  ·
    exact me_xthr (names := ex_nm) (text := "all is down") (sa := sa) hx hb hln 2 hown rfl ex_f2 ex_fn kl83 ki2 (by decide +kernel) (fun w hw => hts w (by first | exact List.mem_cons_of_mem _ (List.mem_append_right _ hw) | exact List.mem_cons_of_mem _ (List.mem_append_left _ (List.mem_append_right _ hw)))) ex_b2 ex_g2 hE hK hP hD hS (hl.1.trans hml.symm) dX3_cut_7 dX3_cut_10 dX3_cut_11 dX3_cut_13 dX3_cut_16 ht (Nat.le_of_ble_eq_true rfl) (Nat.le_of_ble_eq_true rfl) (Nat.le_of_ble_eq_true rfl) (Nat.le_of_ble_eq_true rfl) hlocks (by decide) (by first | (simp only [k_cut, if_neg c4]; done) | contradiction)

def k_count (a : Int32) (σ : me_M) : me_F := if a = nI 0 then (if (σ 0 5) = 0 then ((0, (σ 0 12) - (nI 1), σ)) else ((0, nI 0, σ))) else (if a = nI 1 then ((0, σ 0 11, σ)) else (if a = nI 2 then ((0, σ 0 6, σ)) else (if a = nI 3 then (if (σ 0 5) = 0 then ((0, nI 0, σ)) else ((0, nI 1, σ))) else (if a = nI 4 then ((0, σ 0 7, σ)) else (if a = nI 5 then ((0, σ 0 8, σ)) else (if a = nI 6 then (if (σ 0 5) = 0 then (let r107 := k_room σ; (0, r107, σ)) else ((0, nI 0, σ))) else ((1, 0, σ))))))))
set_option maxRecDepth 100000 in
set_option maxHeartbeats 4000000 in
theorem c_X3_count (l : Launch) (hln : l.stackTraces = false) (D : va_G) (cy : Nat → ClassId) (ad : Nat → Nat) (xr : va_W) (sa : Nat → Nat) (a : Int32) (σ : me_M)  (sz : Nat) : me_Xi l yX3_count wsX3_count ({ frames := 6, cells := 1, slots := 6, locals := 82 }) D (me_T cy) (kk_W cy ad xr) [.ref (ad 0), .int a] sz σ sa (k_count a σ) := by
  refine vx_ofW (cc := cX3_count) (maxL := 2) (ret := (some .int)) (by decide) rfl ?_
  intro p e st m args below meth c s₁ B hml ht hv
  obtain ⟨rfl, ⟨hsz, hP, hK, hD0⟩, hE⟩ := hv
  have hx := B.exec
  have hb := B.bytes
  have hr := B.returns
  have hts := atoms_spec (ws := wsX3_count) B.pre
  have hown : st.vm.findClass RX3 = some m.cls := findClass_of_methodNamed B.named
  have hlocks := B.notSynchronized
  have in3 : ∀ w ∈ u_ws RX3 TX3 15, w ∈ wsX3_count := by decide +kernel
  have k31 := hts (.fieldLink RX3 31 "TwinWrites" "down" "Z") (by decide +kernel)
  have k35 := hts (.fieldLink RX3 35 "TwinWrites" "sectorsWritten" "I") (by decide +kernel)
  have k38 := hts (.fieldLink RX3 38 "TwinWrites" "pagesCleaned" "I") (by decide +kernel)
  have k41 := hts (.fieldLink RX3 41 "TwinWrites" "pagesMended" "I") (by decide +kernel)
  have k53 := hts (.fieldLink RX3 53 "TwinWrites" "waitingCount" "I") (by decide +kernel)
  have k56 := hts (.fieldLink RX3 56 "TwinWrites" "nextNumber" "I") (by decide +kernel)
  subst hsz
  have hD := hD0.self (sz := st.heap.size)
  have hA : ∀ q : Nat, st.heap.size ≤ q → va_A ((kk_W cy ad xr) σ) st.heap.size q := fun q h => Or.inr h
  have hS : va_S (va_A ((kk_W cy ad xr) σ) st.heap.size) st.heap st.heap [] := va_S.rf
  generalize va_A ((kk_W cy ad xr) σ) st.heap.size = A at hD hA hS hE ⊢
  have kl74 : (Cond.classLink RX3 74 (ex_N 1)).before ([.ref (ad 0), .int a] : List Value).toArray st = true := hts (.classLink RX3 74 "java/lang/IndexOutOfBoundsException") (by decide +kernel)
  have ki1 : (Cond.initialized (ex_N 1)).before ([.ref (ad 0), .int a] : List Value).toArray st = true := hts (.initialized "java/lang/IndexOutOfBoundsException") (by decide +kernel)
  have hl := lv_entry ([.ref (ad 0), .int a]) (n := 2) (Nat.le_of_ble_eq_true rfl)
  rw [lg_entry_eq]
  generalize (lg_sl ([.ref (ad 0), .int a]) ++ List.replicate (2 - (lg_sl ([.ref (ad 0), .int a])).length) Slot.unset).toArray = ls at hl ⊢
  have hl : lv_has ls 2 [(0, .ref (ad 0)), (1, .int a)] := hl
  refine lv_iload_n hx hb dX3_count_0 rfl (lv_at hl 1 rfl) ?_
  by_cases c1_0 : a = nI 0
  ·
    refine me_top c1_0 ?_
    refine lv_tableIn (tgt := 44) hx hb dX3_count_1 (by decide) (by decide) (by rfl) (by decide) ?_
    refine lv_aload_n hx hb dX3_count_44 rfl (lv_at hl 0 rfl) ?_
    refine va_get (D := D) (ci := 3) (v := .int (σ 0 5)) (C := RX3) (T := TX3) (N := 15) hx hb hts in3 hown hK hP 0 (me_get (by omega) (kk_0 cy ad _)) rfl 5 (by decide) k31 (fun _ h9 => h9) rfl dX3_count_45 ?_
    refine lv_if_eq (tgt := 55) hx hb dX3_count_48 (by decide) (fun c48 => ?_) (fun c48 => ?_)
    ·
      refine lv_aload_n hx hb dX3_count_55 rfl (lv_at hl 0 rfl) ?_
      refine va_get (D := D) (ci := 3) (v := .int (σ 0 12)) (C := RX3) (T := TX3) (N := 15) hx hb hts in3 hown hK hP 0 (me_get (by omega) (kk_0 cy ad _)) rfl 12 (by decide) k56 (fun _ h9 => h9) rfl dX3_count_56 ?_
      refine lv_iconst (v := nI 1) hx hb dX3_count_59 (by decide) ?_
      refine lv_isub hx hb dX3_count_60 ?_
      exact me_xreti hx hb hr rfl hlocks hK hP hD hS (Nat.le_of_ble_eq_true rfl) (Nat.le_of_ble_eq_true rfl) (by first | (simp only [k_count, if_pos c1_0, if_pos c48]; done) | contradiction) dX3_count_61
    ·
      refine lv_iconst (v := nI 0) hx hb dX3_count_51 (by decide) ?_
      refine lv_goto (tgt := 61) hx hb dX3_count_52 (by decide) ?_
      exact me_xreti hx hb hr rfl hlocks hK hP hD hS (Nat.le_of_ble_eq_true rfl) (Nat.le_of_ble_eq_true rfl) (by first | (simp only [k_count, if_pos c1_0, if_neg c48]; done) | contradiction) dX3_count_61
  by_cases c1_1 : a = nI 1
  ·
    refine me_top c1_1 ?_
    refine lv_tableIn (tgt := 62) hx hb dX3_count_1 (by decide) (by decide) (by rfl) (by decide) ?_
    refine lv_aload_n hx hb dX3_count_62 rfl (lv_at hl 0 rfl) ?_
    refine va_get (D := D) (ci := 3) (v := .int (σ 0 11)) (C := RX3) (T := TX3) (N := 15) hx hb hts in3 hown hK hP 0 (me_get (by omega) (kk_0 cy ad _)) rfl 11 (by decide) k53 (fun _ h9 => h9) rfl dX3_count_63 ?_
    exact me_xreti hx hb hr rfl hlocks hK hP hD hS (Nat.le_of_ble_eq_true rfl) (Nat.le_of_ble_eq_true rfl) (by first | (simp only [k_count, if_neg c1_0, if_pos c1_1]; done) | contradiction) dX3_count_66
  by_cases c1_2 : a = nI 2
  ·
    refine me_top c1_2 ?_
    refine lv_tableIn (tgt := 67) hx hb dX3_count_1 (by decide) (by decide) (by rfl) (by decide) ?_
    refine lv_aload_n hx hb dX3_count_67 rfl (lv_at hl 0 rfl) ?_
    refine va_get (D := D) (ci := 3) (v := .int (σ 0 6)) (C := RX3) (T := TX3) (N := 15) hx hb hts in3 hown hK hP 0 (me_get (by omega) (kk_0 cy ad _)) rfl 6 (by decide) k35 (fun _ h9 => h9) rfl dX3_count_68 ?_
    exact me_xreti hx hb hr rfl hlocks hK hP hD hS (Nat.le_of_ble_eq_true rfl) (Nat.le_of_ble_eq_true rfl) (by first | (simp only [k_count, if_neg c1_0, if_neg c1_1, if_pos c1_2]; done) | contradiction) dX3_count_71
  by_cases c1_3 : a = nI 3
  ·
    refine me_top c1_3 ?_
    refine lv_tableIn (tgt := 72) hx hb dX3_count_1 (by decide) (by decide) (by rfl) (by decide) ?_
    refine lv_aload_n hx hb dX3_count_72 rfl (lv_at hl 0 rfl) ?_
    refine va_get (D := D) (ci := 3) (v := .int (σ 0 5)) (C := RX3) (T := TX3) (N := 15) hx hb hts in3 hown hK hP 0 (me_get (by omega) (kk_0 cy ad _)) rfl 5 (by decide) k31 (fun _ h9 => h9) rfl dX3_count_73 ?_
    refine lv_if_eq (tgt := 83) hx hb dX3_count_76 (by decide) (fun c76 => ?_) (fun c76 => ?_)
    ·
      refine lv_iconst (v := nI 0) hx hb dX3_count_83 (by decide) ?_
      exact me_xreti hx hb hr rfl hlocks hK hP hD hS (Nat.le_of_ble_eq_true rfl) (Nat.le_of_ble_eq_true rfl) (by first | (simp only [k_count, if_neg c1_0, if_neg c1_1, if_neg c1_2, if_pos c1_3, if_pos c76]; done) | contradiction) dX3_count_84
    ·
      refine lv_iconst (v := nI 1) hx hb dX3_count_79 (by decide) ?_
      refine lv_goto (tgt := 84) hx hb dX3_count_80 (by decide) ?_
      exact me_xreti hx hb hr rfl hlocks hK hP hD hS (Nat.le_of_ble_eq_true rfl) (Nat.le_of_ble_eq_true rfl) (by first | (simp only [k_count, if_neg c1_0, if_neg c1_1, if_neg c1_2, if_pos c1_3, if_neg c76]; done) | contradiction) dX3_count_84
  by_cases c1_4 : a = nI 4
  ·
    refine me_top c1_4 ?_
    refine lv_tableIn (tgt := 85) hx hb dX3_count_1 (by decide) (by decide) (by rfl) (by decide) ?_
    refine lv_aload_n hx hb dX3_count_85 rfl (lv_at hl 0 rfl) ?_
    refine va_get (D := D) (ci := 3) (v := .int (σ 0 7)) (C := RX3) (T := TX3) (N := 15) hx hb hts in3 hown hK hP 0 (me_get (by omega) (kk_0 cy ad _)) rfl 7 (by decide) k38 (fun _ h9 => h9) rfl dX3_count_86 ?_
    exact me_xreti hx hb hr rfl hlocks hK hP hD hS (Nat.le_of_ble_eq_true rfl) (Nat.le_of_ble_eq_true rfl) (by first | (simp only [k_count, if_neg c1_0, if_neg c1_1, if_neg c1_2, if_neg c1_3, if_pos c1_4]; done) | contradiction) dX3_count_89
  by_cases c1_5 : a = nI 5
  ·
    refine me_top c1_5 ?_
    refine lv_tableIn (tgt := 90) hx hb dX3_count_1 (by decide) (by decide) (by rfl) (by decide) ?_
    refine lv_aload_n hx hb dX3_count_90 rfl (lv_at hl 0 rfl) ?_
    refine va_get (D := D) (ci := 3) (v := .int (σ 0 8)) (C := RX3) (T := TX3) (N := 15) hx hb hts in3 hown hK hP 0 (me_get (by omega) (kk_0 cy ad _)) rfl 8 (by decide) k41 (fun _ h9 => h9) rfl dX3_count_91 ?_
    exact me_xreti hx hb hr rfl hlocks hK hP hD hS (Nat.le_of_ble_eq_true rfl) (Nat.le_of_ble_eq_true rfl) (by first | (simp only [k_count, if_neg c1_0, if_neg c1_1, if_neg c1_2, if_neg c1_3, if_neg c1_4, if_pos c1_5]; done) | contradiction) dX3_count_94
  by_cases c1_6 : a = nI 6
  ·
    refine me_top c1_6 ?_
    refine lv_tableIn (tgt := 95) hx hb dX3_count_1 (by decide) (by decide) (by rfl) (by decide) ?_
    refine lv_aload_n hx hb dX3_count_95 rfl (lv_at hl 0 rfl) ?_
    refine va_get (D := D) (ci := 3) (v := .int (σ 0 5)) (C := RX3) (T := TX3) (N := 15) hx hb hts in3 hown hK hP 0 (me_get (by omega) (kk_0 cy ad _)) rfl 5 (by decide) k31 (fun _ h9 => h9) rfl dX3_count_96 ?_
    refine lv_if_eq (tgt := 106) hx hb dX3_count_99 (by decide) (fun c99 => ?_) (fun c99 => ?_)
    ·
      refine lv_aload_n hx hb dX3_count_106 rfl (lv_at hl 0 rfl) ?_
      refine me_callr (f := k_room σ) (w := (kk_W cy ad xr)) (σ := σ) (As := []) (rest := []) ⟨hx, hb, hml, hown, hts⟩ (fun sz => c_X3_room l D cy ad xr  σ  sz) (cwV 0 hts gX3_count_X3_room rfl rfl rfl (by decide +kernel) ⟨Nat.le_of_ble_eq_true rfl, Nat.le_of_ble_eq_true rfl⟩) (va_recv hK hP (ci := 3) (q0 := 0) rfl (me_get (by omega) (kk_0 cy ad _))) hK hP hD hS hA rfl hl.1 rfl (Nat.le_of_ble_eq_true rfl) dX3_count_107 ⟨Nat.zero_le _, Nat.zero_le _⟩ (fun r107 H locs e107 hP hD hS => ?_)
      exact me_xreti hx hb hr rfl hlocks hK hP hD hS (Nat.le_of_ble_eq_true rfl) (Nat.le_of_ble_eq_true rfl) (by first | (simp only [k_count, if_neg c1_0, if_neg c1_1, if_neg c1_2, if_neg c1_3, if_neg c1_4, if_neg c1_5, if_pos c1_6, if_pos c99, e107]; done) | contradiction) dX3_count_110
    ·
      refine lv_iconst (v := nI 0) hx hb dX3_count_102 (by decide) ?_
      refine lv_goto (tgt := 110) hx hb dX3_count_103 (by decide) ?_
      exact me_xreti hx hb hr rfl hlocks hK hP hD hS (Nat.le_of_ble_eq_true rfl) (Nat.le_of_ble_eq_true rfl) (by first | (simp only [k_count, if_neg c1_0, if_neg c1_1, if_neg c1_2, if_neg c1_3, if_neg c1_4, if_neg c1_5, if_pos c1_6, if_neg c99]; done) | contradiction) dX3_count_110
  have c1_o := me_out (x := a) (n := 7) (by decide) (by intro j hj; match j, hj with | 0, _ => exact c1_0 | 1, _ => exact c1_1 | 2, _ => exact c1_2 | 3, _ => exact c1_3 | 4, _ => exact c1_4 | 5, _ => exact c1_5 | 6, _ => exact c1_6 | (j + 7), hj => exact absurd hj (by omega))
  refine lv_tableOut (tgt := 111) hx hb dX3_count_1 (by omega) (by decide) ?_
  exact me_xthr (names := ex_nm) (text := "no such what") (sa := sa) hx hb hln 1 hown rfl ex_f1 ex_fn kl74 ki1 (by decide +kernel) (fun w hw => hts w (by first | exact List.mem_cons_of_mem _ (List.mem_append_right _ hw) | exact List.mem_cons_of_mem _ (List.mem_append_left _ (List.mem_append_right _ hw)))) ex_b1 ex_g1 hE hK hP hD hS (hl.1.trans hml.symm) dX3_count_111 dX3_count_114 dX3_count_115 dX3_count_117 dX3_count_120 ht (Nat.le_of_ble_eq_true rfl) (Nat.le_of_ble_eq_true rfl) (Nat.le_of_ble_eq_true rfl) (Nat.le_of_ble_eq_true rfl) hlocks (by decide) (by first | (simp only [k_count, if_neg c1_0, if_neg c1_1, if_neg c1_2, if_neg c1_3, if_neg c1_4, if_neg c1_5, if_neg c1_6]; done) | contradiction)

def k_frame (a : Int32) (b : Int32) (σ : me_M) : me_F := if (k_isIn a (nI 4)) = 0 then ((1, 0, σ)) else (if (k_isIn b (nI 19)) = 0 then ((1, 0, σ)) else (let r34 := k_fval a.toNatClampNeg b.toNatClampNeg σ; (0, r34, σ)))
set_option maxRecDepth 100000 in
set_option maxHeartbeats 4000000 in
theorem c_X3_frame (l : Launch) (hln : l.stackTraces = false) (D : va_G) (cy : Nat → ClassId) (ad : Nat → Nat) (xr : va_W) (sa : Nat → Nat) (a : Int32) (b : Int32) (σ : me_M)  (sz : Nat) : me_Xi l yX3_frame wsX3_frame ({ frames := 6, cells := 1, slots := 6, locals := 82 }) D (me_T cy) (kk_W cy ad xr) [.ref (ad 0), .int a, .int b] sz σ sa (k_frame a b σ) := by
  refine vx_ofW (cc := cX3_frame) (maxL := 3) (ret := (some .int)) (by decide) rfl ?_
  intro p e st m args below meth c s₁ B hml ht hv
  obtain ⟨rfl, ⟨hsz, hP, hK, hD0⟩, hE⟩ := hv
  have hx := B.exec
  have hb := B.bytes
  have hr := B.returns
  have hts := atoms_spec (ws := wsX3_frame) B.pre
  have hown : st.vm.findClass RX3 = some m.cls := findClass_of_methodNamed B.named
  have hlocks := B.notSynchronized
  have in3 : ∀ w ∈ u_ws RX3 TX3 15, w ∈ wsX3_frame := by decide +kernel
  have k46 := hts (.fieldLink RX3 46 "TwinWrites" "frames" "[LTwinWrites$Frame;") (by decide +kernel)
  subst hsz
  have hD := hD0.self (sz := st.heap.size)
  have hA : ∀ q : Nat, st.heap.size ≤ q → va_A ((kk_W cy ad xr) σ) st.heap.size q := fun q h => Or.inr h
  have hS : va_S (va_A ((kk_W cy ad xr) σ) st.heap.size) st.heap st.heap [] := va_S.rf
  generalize va_A ((kk_W cy ad xr) σ) st.heap.size = A at hD hA hS hE ⊢
  have kl74 : (Cond.classLink RX3 74 (ex_N 1)).before ([.ref (ad 0), .int a, .int b] : List Value).toArray st = true := hts (.classLink RX3 74 "java/lang/IndexOutOfBoundsException") (by decide +kernel)
  have ki1 : (Cond.initialized (ex_N 1)).before ([.ref (ad 0), .int a, .int b] : List Value).toArray st = true := hts (.initialized "java/lang/IndexOutOfBoundsException") (by decide +kernel)
  have hl := lv_entry ([.ref (ad 0), .int a, .int b]) (n := 3) (Nat.le_of_ble_eq_true rfl)
  rw [lg_entry_eq]
  generalize (lg_sl ([.ref (ad 0), .int a, .int b]) ++ List.replicate (3 - (lg_sl ([.ref (ad 0), .int a, .int b])).length) Slot.unset).toArray = ls at hl ⊢
  have hl : lv_has ls 3 [(0, .ref (ad 0)), (1, .int a), (2, .int b)] := hl
  refine lv_iload_n hx hb dX3_frame_0 rfl (lv_at hl 1 rfl) ?_
  refine lv_iconst (v := nI 4) hx hb dX3_frame_1 (by decide) ?_
  refine me_calls (As := [.int a, .int (nI 4)]) (rest := []) ⟨hx, hb, hml, hown, hts⟩ (c_X3_isIn l a (nI 4) ) (cwS 2 hts gX3_frame_X3_isIn rfl rfl rfl (by decide +kernel) ⟨Nat.le_of_ble_eq_true rfl, Nat.le_of_ble_eq_true rfl⟩) rfl hl.1 rfl (Nat.le_of_ble_eq_true rfl) dX3_frame_2 ⟨Nat.zero_le _, Nat.zero_le _⟩ ?_
  refine lv_if_eq (tgt := 17) hx hb dX3_frame_5 (by decide) (fun c5 => ?_) (fun c5 => ?_)
  ·
    exact me_xthr (names := ex_nm) (text := "no such frame or what") (sa := sa) hx hb hln 1 hown rfl ex_f1 ex_fn kl74 ki1 (by decide +kernel) (fun w hw => hts w (by first | exact List.mem_cons_of_mem _ (List.mem_append_right _ hw) | exact List.mem_cons_of_mem _ (List.mem_append_left _ (List.mem_append_right _ hw)))) ex_b1 ex_g1 hE hK hP hD hS (hl.1.trans hml.symm) dX3_frame_17 dX3_frame_20 dX3_frame_21 dX3_frame_23 dX3_frame_26 ht (Nat.le_of_ble_eq_true rfl) (Nat.le_of_ble_eq_true rfl) (Nat.le_of_ble_eq_true rfl) (Nat.le_of_ble_eq_true rfl) hlocks (by decide) (by first | (simp only [k_frame, if_pos c5]; done) | contradiction)
  ·
    refine lv_iload_n hx hb dX3_frame_8 rfl (lv_at hl 2 rfl) ?_
    refine lv_bipush (v := nI 19) hx hb dX3_frame_9 (by decide) ?_
    refine me_calls (As := [.int b, .int (nI 19)]) (rest := []) ⟨hx, hb, hml, hown, hts⟩ (c_X3_isIn l b (nI 19) ) (cwS 2 hts gX3_frame_X3_isIn rfl rfl rfl (by decide +kernel) ⟨Nat.le_of_ble_eq_true rfl, Nat.le_of_ble_eq_true rfl⟩) rfl hl.1 rfl (Nat.le_of_ble_eq_true rfl) dX3_frame_11 ⟨Nat.zero_le _, Nat.zero_le _⟩ ?_
    refine lv_if_ne (tgt := 27) hx hb dX3_frame_14 (by decide) (fun c14 => ?_) (fun c14 => ?_)
    ·
      refine lv_aload_n hx hb dX3_frame_27 rfl (lv_at hl 0 rfl) ?_
      refine va_get (D := D) (ci := 3) (v := .ref (ad 4)) (C := RX3) (T := TX3) (N := 15) hx hb hts in3 hown hK hP 0 (me_get (by omega) (kk_0 cy ad _)) rfl 9 (by decide) k46 (fun _ h9 => h9) rfl dX3_frame_28 ?_
      refine lv_iload_n hx hb dX3_frame_31 rfl (lv_at hl 1 rfl) ?_
      have v32 : vp_in a 4 := pu_isIn c5
      have b32 := me_inb v32
      refine me_aald (g := fun j => ad (94 + 2 * j)) hx hb hK hP 4 5 (by omega) (fun f => kk_a4 cy ad f) rfl a.toNatClampNeg (me_ine v32) (by omega) (by decide) dX3_frame_32 ?_
      refine lv_iload_n hx hb dX3_frame_33 rfl (lv_at hl 2 rfl) ?_
      have v34_t : vp_in b 19 := pu_isIn c14
      have b34_t := me_inb v34_t
      have q34_t : b = nI b.toNatClampNeg := me_ine v34_t
      refine me_callr (f := k_fval a.toNatClampNeg b.toNatClampNeg σ) (w := (kk_W cy ad xr)) (σ := σ) (As := [.int b]) (rest := []) ⟨hx, hb, hml, hown, hts⟩ (fun sz => me_av (av := [.ref (ad (94 + 2 * a.toNatClampNeg)), .int (nI b.toNatClampNeg)]) (by simp only [← q34_t]) (c_X1_value l D cy ad xr a.toNatClampNeg b.toNatClampNeg σ (by omega) (by omega) sz)) (cwV 1 hts gX3_frame_X1_value rfl rfl rfl (by decide +kernel) ⟨Nat.le_of_ble_eq_true rfl, Nat.le_of_ble_eq_true rfl⟩) (va_recv hK hP (ci := 1) (q0 := (94 + 2 * a.toNatClampNeg)) rfl (me_get (by omega) (kk_fr cy ad (by omega) _))) hK hP hD hS hA rfl hl.1 rfl (Nat.le_of_ble_eq_true rfl) dX3_frame_34 ⟨Nat.zero_le _, Nat.zero_le _⟩ (fun r34 H locs e34 hP hD hS => ?_)
      exact me_xreti hx hb hr rfl hlocks hK hP hD hS (Nat.le_of_ble_eq_true rfl) (Nat.le_of_ble_eq_true rfl) (by first | (simp only [k_frame, if_neg c5, if_neg c14, e34]; done) | contradiction) dX3_frame_37
    ·
      exact me_xthr (names := ex_nm) (text := "no such frame or what") (sa := sa) hx hb hln 1 hown rfl ex_f1 ex_fn kl74 ki1 (by decide +kernel) (fun w hw => hts w (by first | exact List.mem_cons_of_mem _ (List.mem_append_right _ hw) | exact List.mem_cons_of_mem _ (List.mem_append_left _ (List.mem_append_right _ hw)))) ex_b1 ex_g1 hE hK hP hD hS (hl.1.trans hml.symm) dX3_frame_17 dX3_frame_20 dX3_frame_21 dX3_frame_23 dX3_frame_26 ht (Nat.le_of_ble_eq_true rfl) (Nat.le_of_ble_eq_true rfl) (Nat.le_of_ble_eq_true rfl) (Nat.le_of_ble_eq_true rfl) hlocks (by decide) (by first | (simp only [k_frame, if_neg c5, if_pos c14]; done) | contradiction)

def k_sync  (σ : me_M) : me_F := if (σ 0 5) = 0 then (let q18 := k_lw σ; let r18 := q18.1; let s18 := q18.2; if r18 = (-3) then (let q29 := k_lose s18; let r29 := q29.1; let s29 := q29.2; (0, r29, s29)) else ((0, r18, s18))) else ((2, 0, σ))
set_option maxRecDepth 100000 in
set_option maxHeartbeats 4000000 in
theorem c_X3_sync (l : Launch) (hln : l.stackTraces = false) (D : va_G) (cy : Nat → ClassId) (ad : Nat → Nat) (xr : va_W) (sa : Nat → Nat)  (σ : me_M) (hI : k_I σ) (sz : Nat) : me_Xi l yX3_sync wsX3_sync ({ frames := 6, cells := 1, slots := 6, locals := 82 }) D (me_T cy) (kk_W cy ad xr) [.ref (ad 0)] sz σ sa (k_sync  σ) := by
  refine vx_ofW (cc := cX3_sync) (maxL := 2) (ret := (some .int)) (by decide) rfl ?_
  intro p e st m args below meth c s₁ B hml ht hv
  obtain ⟨rfl, ⟨hsz, hP, hK, hD0⟩, hE⟩ := hv
  have hx := B.exec
  have hb := B.bytes
  have hr := B.returns
  have hts := atoms_spec (ws := wsX3_sync) B.pre
  have hown : st.vm.findClass RX3 = some m.cls := findClass_of_methodNamed B.named
  have hlocks := B.notSynchronized
  have in3 : ∀ w ∈ u_ws RX3 TX3 15, w ∈ wsX3_sync := by decide +kernel
  have k31 := hts (.fieldLink RX3 31 "TwinWrites" "down" "Z") (by decide +kernel)
  subst hsz
  have hD := hD0.self (sz := st.heap.size)
  have hA : ∀ q : Nat, st.heap.size ≤ q → va_A ((kk_W cy ad xr) σ) st.heap.size q := fun q h => Or.inr h
  have hS : va_S (va_A ((kk_W cy ad xr) σ) st.heap.size) st.heap st.heap [] := va_S.rf
  generalize va_A ((kk_W cy ad xr) σ) st.heap.size = A at hD hA hS hE ⊢
  have kl83 : (Cond.classLink RX3 83 (ex_N 2)).before ([.ref (ad 0)] : List Value).toArray st = true := hts (.classLink RX3 83 "java/lang/IllegalStateException") (by decide +kernel)
  have ki2 : (Cond.initialized (ex_N 2)).before ([.ref (ad 0)] : List Value).toArray st = true := hts (.initialized "java/lang/IllegalStateException") (by decide +kernel)
  have hl := lv_entry ([.ref (ad 0)]) (n := 2) (Nat.le_of_ble_eq_true rfl)
  rw [lg_entry_eq]
  generalize (lg_sl ([.ref (ad 0)]) ++ List.replicate (2 - (lg_sl ([.ref (ad 0)])).length) Slot.unset).toArray = ls at hl ⊢
  have hl : lv_has ls 2 [(0, .ref (ad 0))] := hl
  refine lv_aload_n hx hb dX3_sync_0 rfl (lv_at hl 0 rfl) ?_
  refine va_get (D := D) (ci := 3) (v := .int (σ 0 5)) (C := RX3) (T := TX3) (N := 15) hx hb hts in3 hown hK hP 0 (me_get (by omega) (kk_0 cy ad _)) rfl 5 (by decide) k31 (fun _ h9 => h9) rfl dX3_sync_1 ?_
  refine lv_if_eq (tgt := 17) hx hb dX3_sync_4 (by decide) (fun c4 => ?_) (fun c4 => ?_)
  ·
    refine lv_aload_n hx hb dX3_sync_17 rfl (lv_at hl 0 rfl) ?_
    refine me_calli (f := k_lw σ) (w := (kk_W cy ad xr)) (σ := σ) (As := []) (rest := []) ⟨hx, hb, hml, hown, hts⟩ (fun sz => c_X3_logWaiting l D cy ad xr  σ (hI) sz) (cwV 0 hts gX3_sync_X3_logWaiting rfl rfl rfl (by decide +kernel) ⟨Nat.le_of_ble_eq_true rfl, Nat.le_of_ble_eq_true rfl⟩) (va_recv hK hP (ci := 3) (q0 := 0) rfl (me_get (by omega) (kk_0 cy ad _))) hK hP hD hS hA rfl hl.1 rfl (Nat.le_of_ble_eq_true rfl) dX3_sync_18 ⟨Nat.zero_le _, Nat.zero_le _⟩ (fun r18 s18 H locs e18 hP hD hS => ?_)
    refine lv_istore_n (lv' := [(1, .int r18), (0, .ref (ad 0))]) hx hb dX3_sync_21 rfl hl (by decide) rfl (fun ls hl => ?_)
    refine lv_iload_n hx hb dX3_sync_22 rfl (lv_at hl 0 rfl) ?_
    refine lv_bipush (v := (-3)) hx hb dX3_sync_23 (by decide) ?_
    refine lv_icmp_ne (tgt := 35) hx hb dX3_sync_25 (by decide) (fun c25 => ?_) (fun c25 => ?_)
    ·
      refine lv_iload_n hx hb dX3_sync_35 rfl (lv_at hl 0 rfl) ?_
      exact me_xreti hx hb hr rfl hlocks hK hP hD hS (Nat.le_of_ble_eq_true rfl) (Nat.le_of_ble_eq_true rfl) (by first | (simp only [k_sync, if_pos c4, e18, if_neg c25]; done) | contradiction) dX3_sync_36
    ·
      refine lv_aload_n hx hb dX3_sync_28 rfl (lv_at hl 1 rfl) ?_
      refine me_calli (f := k_lose s18) (w := (kk_W cy ad xr)) (σ := s18) (As := []) (rest := []) ⟨hx, hb, hml, hown, hts⟩ (fun sz => c_X3_lose l D cy ad xr  s18  sz) (cwV 0 hts gX3_sync_X3_lose rfl rfl rfl (by decide +kernel) ⟨Nat.le_of_ble_eq_true rfl, Nat.le_of_ble_eq_true rfl⟩) (va_recv hK hP (ci := 3) (q0 := 0) rfl (me_get (by omega) (kk_0 cy ad _))) hK hP hD hS hA rfl hl.1 rfl (Nat.le_of_ble_eq_true rfl) dX3_sync_29 ⟨Nat.zero_le _, Nat.zero_le _⟩ (fun r29 s29 H locs e29 hP hD hS => ?_)
      refine lv_goto (tgt := 36) hx hb dX3_sync_32 (by decide) ?_
      exact me_xreti hx hb hr rfl hlocks hK hP hD hS (Nat.le_of_ble_eq_true rfl) (Nat.le_of_ble_eq_true rfl) (by first | (simp only [k_sync, if_pos c4, e18, if_pos c25, e29]; done) | contradiction) dX3_sync_36
  ·
    exact me_xthr (names := ex_nm) (text := "all is down") (sa := sa) hx hb hln 2 hown rfl ex_f2 ex_fn kl83 ki2 (by decide +kernel) (fun w hw => hts w (by first | exact List.mem_cons_of_mem _ (List.mem_append_right _ hw) | exact List.mem_cons_of_mem _ (List.mem_append_left _ (List.mem_append_right _ hw)))) ex_b2 ex_g2 hE hK hP hD hS (hl.1.trans hml.symm) dX3_sync_7 dX3_sync_10 dX3_sync_11 dX3_sync_13 dX3_sync_16 ht (Nat.le_of_ble_eq_true rfl) (Nat.le_of_ble_eq_true rfl) (Nat.le_of_ble_eq_true rfl) (Nat.le_of_ble_eq_true rfl) hlocks (by decide) (by first | (simp only [k_sync, if_neg c4]; done) | contradiction)

def k_cpt  (σ : me_M) : me_F := if (σ 0 5) = 0 then (let q18 := k_cam σ; let r18 := q18.1; let s18 := q18.2; if r18 = (-3) then (let q29 := k_lose s18; let r29 := q29.1; let s29 := q29.2; (0, r29, s29)) else ((0, r18, s18))) else ((2, 0, σ))
set_option maxRecDepth 100000 in
set_option maxHeartbeats 4000000 in
theorem c_X3_checkpoint (l : Launch) (hln : l.stackTraces = false) (D : va_G) (cy : Nat → ClassId) (ad : Nat → Nat) (xr : va_W) (sa : Nat → Nat)  (σ : me_M) (hI : k_I σ) (sz : Nat) : me_Xi l yX3_checkpoint wsX3_checkpoint ({ frames := 6, cells := 1, slots := 6, locals := 121 }) D (me_T cy) (kk_W cy ad xr) [.ref (ad 0)] sz σ sa (k_cpt  σ) := by
  refine vx_ofW (cc := cX3_checkpoint) (maxL := 2) (ret := (some .int)) (by decide) rfl ?_
  intro p e st m args below meth c s₁ B hml ht hv
  obtain ⟨rfl, ⟨hsz, hP, hK, hD0⟩, hE⟩ := hv
  have hx := B.exec
  have hb := B.bytes
  have hr := B.returns
  have hts := atoms_spec (ws := wsX3_checkpoint) B.pre
  have hown : st.vm.findClass RX3 = some m.cls := findClass_of_methodNamed B.named
  have hlocks := B.notSynchronized
  have in3 : ∀ w ∈ u_ws RX3 TX3 15, w ∈ wsX3_checkpoint := by decide +kernel
  have k31 := hts (.fieldLink RX3 31 "TwinWrites" "down" "Z") (by decide +kernel)
  subst hsz
  have hD := hD0.self (sz := st.heap.size)
  have hA : ∀ q : Nat, st.heap.size ≤ q → va_A ((kk_W cy ad xr) σ) st.heap.size q := fun q h => Or.inr h
  have hS : va_S (va_A ((kk_W cy ad xr) σ) st.heap.size) st.heap st.heap [] := va_S.rf
  generalize va_A ((kk_W cy ad xr) σ) st.heap.size = A at hD hA hS hE ⊢
  have kl83 : (Cond.classLink RX3 83 (ex_N 2)).before ([.ref (ad 0)] : List Value).toArray st = true := hts (.classLink RX3 83 "java/lang/IllegalStateException") (by decide +kernel)
  have ki2 : (Cond.initialized (ex_N 2)).before ([.ref (ad 0)] : List Value).toArray st = true := hts (.initialized "java/lang/IllegalStateException") (by decide +kernel)
  have hl := lv_entry ([.ref (ad 0)]) (n := 2) (Nat.le_of_ble_eq_true rfl)
  rw [lg_entry_eq]
  generalize (lg_sl ([.ref (ad 0)]) ++ List.replicate (2 - (lg_sl ([.ref (ad 0)])).length) Slot.unset).toArray = ls at hl ⊢
  have hl : lv_has ls 2 [(0, .ref (ad 0))] := hl
  refine lv_aload_n hx hb dX3_checkpoint_0 rfl (lv_at hl 0 rfl) ?_
  refine va_get (D := D) (ci := 3) (v := .int (σ 0 5)) (C := RX3) (T := TX3) (N := 15) hx hb hts in3 hown hK hP 0 (me_get (by omega) (kk_0 cy ad _)) rfl 5 (by decide) k31 (fun _ h9 => h9) rfl dX3_checkpoint_1 ?_
  refine lv_if_eq (tgt := 17) hx hb dX3_checkpoint_4 (by decide) (fun c4 => ?_) (fun c4 => ?_)
  ·
    refine lv_aload_n hx hb dX3_checkpoint_17 rfl (lv_at hl 0 rfl) ?_
    refine me_calli (f := k_cam σ) (w := (kk_W cy ad xr)) (σ := σ) (As := []) (rest := []) ⟨hx, hb, hml, hown, hts⟩ (fun sz => c_X3_cleanAllAndMark l D cy ad xr  σ (hI) sz) (cwV 0 hts gX3_checkpoint_X3_cleanAllAndMark rfl rfl rfl (by decide +kernel) ⟨Nat.le_of_ble_eq_true rfl, Nat.le_of_ble_eq_true rfl⟩) (va_recv hK hP (ci := 3) (q0 := 0) rfl (me_get (by omega) (kk_0 cy ad _))) hK hP hD hS hA rfl hl.1 rfl (Nat.le_of_ble_eq_true rfl) dX3_checkpoint_18 ⟨Nat.zero_le _, Nat.zero_le _⟩ (fun r18 s18 H locs e18 hP hD hS => ?_)
    refine lv_istore_n (lv' := [(1, .int r18), (0, .ref (ad 0))]) hx hb dX3_checkpoint_21 rfl hl (by decide) rfl (fun ls hl => ?_)
    refine lv_iload_n hx hb dX3_checkpoint_22 rfl (lv_at hl 0 rfl) ?_
    refine lv_bipush (v := (-3)) hx hb dX3_checkpoint_23 (by decide) ?_
    refine lv_icmp_ne (tgt := 35) hx hb dX3_checkpoint_25 (by decide) (fun c25 => ?_) (fun c25 => ?_)
    ·
      refine lv_iload_n hx hb dX3_checkpoint_35 rfl (lv_at hl 0 rfl) ?_
      exact me_xreti hx hb hr rfl hlocks hK hP hD hS (Nat.le_of_ble_eq_true rfl) (Nat.le_of_ble_eq_true rfl) (by first | (simp only [k_cpt, if_pos c4, e18, if_neg c25]; done) | contradiction) dX3_checkpoint_36
    ·
      refine lv_aload_n hx hb dX3_checkpoint_28 rfl (lv_at hl 1 rfl) ?_
      refine me_calli (f := k_lose s18) (w := (kk_W cy ad xr)) (σ := s18) (As := []) (rest := []) ⟨hx, hb, hml, hown, hts⟩ (fun sz => c_X3_lose l D cy ad xr  s18  sz) (cwV 0 hts gX3_checkpoint_X3_lose rfl rfl rfl (by decide +kernel) ⟨Nat.le_of_ble_eq_true rfl, Nat.le_of_ble_eq_true rfl⟩) (va_recv hK hP (ci := 3) (q0 := 0) rfl (me_get (by omega) (kk_0 cy ad _))) hK hP hD hS hA rfl hl.1 rfl (Nat.le_of_ble_eq_true rfl) dX3_checkpoint_29 ⟨Nat.zero_le _, Nat.zero_le _⟩ (fun r29 s29 H locs e29 hP hD hS => ?_)
      refine lv_goto (tgt := 36) hx hb dX3_checkpoint_32 (by decide) ?_
      exact me_xreti hx hb hr rfl hlocks hK hP hD hS (Nat.le_of_ble_eq_true rfl) (Nat.le_of_ble_eq_true rfl) (by first | (simp only [k_cpt, if_pos c4, e18, if_pos c25, e29]; done) | contradiction) dX3_checkpoint_36
  ·
    exact me_xthr (names := ex_nm) (text := "all is down") (sa := sa) hx hb hln 2 hown rfl ex_f2 ex_fn kl83 ki2 (by decide +kernel) (fun w hw => hts w (by first | exact List.mem_cons_of_mem _ (List.mem_append_right _ hw) | exact List.mem_cons_of_mem _ (List.mem_append_left _ (List.mem_append_right _ hw)))) ex_b2 ex_g2 hE hK hP hD hS (hl.1.trans hml.symm) dX3_checkpoint_7 dX3_checkpoint_10 dX3_checkpoint_11 dX3_checkpoint_13 dX3_checkpoint_16 ht (Nat.le_of_ble_eq_true rfl) (Nat.le_of_ble_eq_true rfl) (Nat.le_of_ble_eq_true rfl) (Nat.le_of_ble_eq_true rfl) hlocks (by decide) (by first | (simp only [k_cpt, if_neg c4]; done) | contradiction)
