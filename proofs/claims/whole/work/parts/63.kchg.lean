def k_read (a : Int32) (b : Int32) (σ : me_M) : me_F := if (k_isIn a (nI 12)) = 0 then ((1, 0, σ)) else (if (k_isIn b (nI 16)) = 0 then ((1, 0, σ)) else (if (σ 0 5) = 0 then (let q47 := k_br a.toNatClampNeg σ; let r47 := q47.1; let s47 := q47.2; if r47 = (-3) then (let s57 := me_st s47 0 14 (nI 0); let q61 := k_lose s57; let r61 := q61.1; let s61 := q61.2; (0, r61, s61)) else (let s72 := me_st s47 0 14 (s47 (94 + 2 * r47.toNatClampNeg + 1) b.toNatClampNeg); (0, nI 1, s72))) else ((2, 0, σ))))
set_option maxRecDepth 100000 in
set_option maxHeartbeats 4000000 in
theorem c_X3_read (l : Launch) (hln : l.stackTraces = false) (D : va_G) (cy : Nat → ClassId) (ad : Nat → Nat) (xr : va_W) (sa : Nat → Nat) (a : Int32) (b : Int32) (σ : me_M) (hI : k_I σ) (sz : Nat) : me_Xi l yX3_read wsX3_read ({ frames := 6, cells := 1, slots := 6, locals := 123 }) D (me_T cy) (kk_W cy ad xr) [.ref (ad 0), .int a, .int b] sz σ sa (k_read a b σ) := by
  refine vx_ofW (cc := cX3_read) (maxL := 4) (ret := (some .int)) (by decide) rfl ?_
  intro p e st m args below meth c s₁ B hml ht hv
  obtain ⟨rfl, ⟨hsz, hP, hK, hD0⟩, hE⟩ := hv
  have hx := B.exec
  have hb := B.bytes
  have hr := B.returns
  have hts := atoms_spec (ws := wsX3_read) B.pre
  have hown : st.vm.findClass RX3 = some m.cls := findClass_of_methodNamed B.named
  have hlocks := B.notSynchronized
  have in1 : ∀ w ∈ u_ws RX1 TX1 5, w ∈ wsX3_read := by decide +kernel
  have in3 : ∀ w ∈ u_ws RX3 TX3 15, w ∈ wsX3_read := by decide +kernel
  have k31 := hts (.fieldLink RX3 31 "TwinWrites" "down" "Z") (by decide +kernel)
  have k62 := hts (.fieldLink RX3 62 "TwinWrites" "wordGot" "I") (by decide +kernel)
  have k106 := hts (.fieldLink RX3 106 "TwinWrites$Frame" "words" "[I") (by decide +kernel)
  subst hsz
  have hD := hD0.self (sz := st.heap.size)
  have hA : ∀ q : Nat, st.heap.size ≤ q → va_A ((kk_W cy ad xr) σ) st.heap.size q := fun q h => Or.inr h
  have hS : va_S (va_A ((kk_W cy ad xr) σ) st.heap.size) st.heap st.heap [] := va_S.rf
  generalize va_A ((kk_W cy ad xr) σ) st.heap.size = A at hD hA hS hE ⊢
  have kl74 : (Cond.classLink RX3 74 (ex_N 1)).before ([.ref (ad 0), .int a, .int b] : List Value).toArray st = true := hts (.classLink RX3 74 "java/lang/IndexOutOfBoundsException") (by decide +kernel)
  have ki1 : (Cond.initialized (ex_N 1)).before ([.ref (ad 0), .int a, .int b] : List Value).toArray st = true := hts (.initialized "java/lang/IndexOutOfBoundsException") (by decide +kernel)
  have kl83 : (Cond.classLink RX3 83 (ex_N 2)).before ([.ref (ad 0), .int a, .int b] : List Value).toArray st = true := hts (.classLink RX3 83 "java/lang/IllegalStateException") (by decide +kernel)
  have ki2 : (Cond.initialized (ex_N 2)).before ([.ref (ad 0), .int a, .int b] : List Value).toArray st = true := hts (.initialized "java/lang/IllegalStateException") (by decide +kernel)
  have hl := lv_entry ([.ref (ad 0), .int a, .int b]) (n := 4) (Nat.le_of_ble_eq_true rfl)
  rw [lg_entry_eq]
  generalize (lg_sl ([.ref (ad 0), .int a, .int b]) ++ List.replicate (4 - (lg_sl ([.ref (ad 0), .int a, .int b])).length) Slot.unset).toArray = ls at hl ⊢
  have hl : lv_has ls 4 [(0, .ref (ad 0)), (1, .int a), (2, .int b)] := hl
  refine lv_iload_n hx hb dX3_read_0 rfl (lv_at hl 1 rfl) ?_
  refine lv_bipush (v := nI 12) hx hb dX3_read_1 (by decide) ?_
  refine me_calls (As := [.int a, .int (nI 12)]) (rest := []) ⟨hx, hb, hml, hown, hts⟩ (c_X3_isIn l a (nI 12) ) (cwS 2 hts gX3_read_X3_isIn rfl rfl rfl (by decide +kernel) ⟨Nat.le_of_ble_eq_true rfl, Nat.le_of_ble_eq_true rfl⟩) rfl hl.1 rfl (Nat.le_of_ble_eq_true rfl) dX3_read_3 ⟨Nat.zero_le _, Nat.zero_le _⟩ ?_
  refine lv_if_eq (tgt := 18) hx hb dX3_read_6 (by decide) (fun c6 => ?_) (fun c6 => ?_)
  ·
    exact me_xthr (names := ex_nm) (text := "no such page or word") (sa := sa) hx hb hln 1 hown rfl ex_f1 ex_fn kl74 ki1 (by decide +kernel) (fun w hw => hts w (by first | exact List.mem_cons_of_mem _ (List.mem_append_right _ hw) | exact List.mem_cons_of_mem _ (List.mem_append_left _ (List.mem_append_right _ hw)))) ex_b1 ex_g1 hE hK hP hD hS (hl.1.trans hml.symm) dX3_read_18 dX3_read_21 dX3_read_22 dX3_read_24 dX3_read_27 ht (Nat.le_of_ble_eq_true rfl) (Nat.le_of_ble_eq_true rfl) (Nat.le_of_ble_eq_true rfl) (Nat.le_of_ble_eq_true rfl) hlocks (by decide) (by first | (simp only [k_read, if_pos c6]; done) | contradiction)
  ·
    refine lv_iload_n hx hb dX3_read_9 rfl (lv_at hl 2 rfl) ?_
    refine lv_bipush (v := nI 16) hx hb dX3_read_10 (by decide) ?_
    refine me_calls (As := [.int b, .int (nI 16)]) (rest := []) ⟨hx, hb, hml, hown, hts⟩ (c_X3_isIn l b (nI 16) ) (cwS 2 hts gX3_read_X3_isIn rfl rfl rfl (by decide +kernel) ⟨Nat.le_of_ble_eq_true rfl, Nat.le_of_ble_eq_true rfl⟩) rfl hl.1 rfl (Nat.le_of_ble_eq_true rfl) dX3_read_12 ⟨Nat.zero_le _, Nat.zero_le _⟩ ?_
    refine lv_if_ne (tgt := 28) hx hb dX3_read_15 (by decide) (fun c15 => ?_) (fun c15 => ?_)
    ·
      refine lv_aload_n hx hb dX3_read_28 rfl (lv_at hl 0 rfl) ?_
      refine va_get (D := D) (ci := 3) (v := .int (σ 0 5)) (C := RX3) (T := TX3) (N := 15) hx hb hts in3 hown hK hP 0 (me_get (by omega) (kk_0 cy ad _)) rfl 5 (by decide) k31 (fun _ h9 => h9) rfl dX3_read_29 ?_
      refine lv_if_eq (tgt := 45) hx hb dX3_read_32 (by decide) (fun c32 => ?_) (fun c32 => ?_)
      ·
        refine lv_aload_n hx hb dX3_read_45 rfl (lv_at hl 0 rfl) ?_
        refine lv_iload_n hx hb dX3_read_46 rfl (lv_at hl 1 rfl) ?_
        have b46 := me_inb (pu_isIn c6)
        refine me_top (me_ine (pu_isIn c6)) ?_
        refine me_callf (z := (-3)) (f := k_br a.toNatClampNeg σ) (w := (kk_W cy ad xr)) (σ := σ) (ad := ad) (As := [.int (nI a.toNatClampNeg)]) (rest := []) ⟨hx, hb, hml, hown, hts⟩ (fun sz => c_X3_bring l D cy ad xr a.toNatClampNeg σ (by omega) (hI) sz) (cwV 1 hts gX3_read_X3_bring rfl rfl rfl (by decide +kernel) ⟨Nat.le_of_ble_eq_true rfl, Nat.le_of_ble_eq_true rfl⟩) (va_recv hK hP (ci := 3) (q0 := 0) rfl (me_get (by omega) (kk_0 cy ad _))) hK hP hD hS hA rfl hl.1 rfl (Nat.le_of_ble_eq_true rfl) dX3_read_47 ⟨Nat.zero_le _, Nat.zero_le _⟩ (fun r47 s47 H locs e47 c47 hP hD hS => ?_) (fun r47 s47 H locs e47 c47 hP hD hS => ?_)
        ·
          refine lv_astore_nN (lv' := [(3, .null), (0, .ref (ad 0)), (1, .int a), (2, .int b)]) hx hb dX3_read_50 rfl hl (by decide) rfl (fun ls hl => ?_)
          refine lv_aload_nN hx hb dX3_read_51 rfl (lv_at hl 0 rfl) ?_
          refine lv_ifnonnullN hx hb dX3_read_52 ?_
          refine lv_aload_n hx hb dX3_read_55 rfl (lv_at hl 1 rfl) ?_
          refine lv_iconst (v := nI 0) hx hb dX3_read_56 (by decide) ?_
          refine me_put (ty := .int) (ci := 3) (C := RX3) (T := TX3) (M := 15) hx hb hts in3 tyX3 tyX3_ok nmX3 hown hK hP hD hS 0 (by omega) (kk_0 cy ad _) rfl 14 (by decide) k62 (fun _ h9 => h9) rfl (by decide +kernel) rfl rfl (Nat.le_of_ble_eq_true rfl) (kk_0 cy ad _) dX3_read_57 (fun s57 H locs e57 hP hD hS => ?_)
          refine lv_aload_n hx hb dX3_read_60 rfl (lv_at hl 1 rfl) ?_
          refine me_calli (f := k_lose s57) (w := (kk_W cy ad xr)) (σ := s57) (As := []) (rest := []) ⟨hx, hb, hml, hown, hts⟩ (fun sz => c_X3_lose l D cy ad xr  s57  sz) (cwV 0 hts gX3_read_X3_lose rfl rfl rfl (by decide +kernel) ⟨Nat.le_of_ble_eq_true rfl, Nat.le_of_ble_eq_true rfl⟩) (va_recv hK hP (ci := 3) (q0 := 0) rfl (me_get (by omega) (kk_0 cy ad _))) hK hP hD hS hA rfl hl.1 rfl (Nat.le_of_ble_eq_true rfl) dX3_read_61 ⟨Nat.zero_le _, Nat.zero_le _⟩ (fun r61 s61 H locs e61 hP hD hS => ?_)
          exact me_xreti hx hb hr rfl hlocks hK hP hD hS (Nat.le_of_ble_eq_true rfl) (Nat.le_of_ble_eq_true rfl) (by first | (simp only [k_read, if_neg c6, if_neg c15, if_pos c32, e47, if_pos c47, e57, e61]; done) | contradiction) dX3_read_64
        ·
          have b47 := me_inb (pu_br_in e47 b46 hI c47)
          refine lv_astore_n (lv' := [(3, .ref (ad (94 + 2 * r47.toNatClampNeg))), (0, .ref (ad 0)), (1, .int a), (2, .int b)]) hx hb dX3_read_50 rfl hl (by decide) rfl (fun ls hl => ?_)
          refine lv_aload_n hx hb dX3_read_51 rfl (lv_at hl 0 rfl) ?_
          refine lv_ifnonnull (tgt := 65) hx hb dX3_read_52 (by decide) ?_
          refine lv_aload_n hx hb dX3_read_65 rfl (lv_at hl 1 rfl) ?_
          refine lv_aload_n hx hb dX3_read_66 rfl (lv_at hl 0 rfl) ?_
          refine va_get (D := D) (ci := 1) (v := .ref (ad (94 + 2 * r47.toNatClampNeg + 1))) (C := RX1) (T := TX1) (N := 5) hx hb hts in1 hown hK hP (94 + 2 * r47.toNatClampNeg) (me_get (by omega) (kk_fr cy ad (by omega) _)) rfl 0 (by decide) k106 (fun _ h9 => h9) rfl dX3_read_67 ?_
          refine lv_iload_n hx hb dX3_read_70 rfl (lv_at hl 3 rfl) ?_
          have b70 := me_inb (pu_isIn c15)
          refine me_top (me_ine (pu_isIn c15)) ?_
          refine me_iald hx hb hK hP (94 + 2 * r47.toNatClampNeg + 1) 0 (by omega) (fun f => kk_16 cy ad (by omega) f) rfl b.toNatClampNeg rfl (by omega) (by decide) dX3_read_71 ?_
          refine me_put (ty := .int) (ci := 3) (C := RX3) (T := TX3) (M := 15) hx hb hts in3 tyX3 tyX3_ok nmX3 hown hK hP hD hS 0 (by omega) (kk_0 cy ad _) rfl 14 (by decide) k62 (fun _ h9 => h9) rfl (by decide +kernel) rfl rfl (Nat.le_of_ble_eq_true rfl) (kk_0 cy ad _) dX3_read_72 (fun s72 H locs e72 hP hD hS => ?_)
          refine lv_iconst (v := nI 1) hx hb dX3_read_75 (by decide) ?_
          exact me_xreti hx hb hr rfl hlocks hK hP hD hS (Nat.le_of_ble_eq_true rfl) (Nat.le_of_ble_eq_true rfl) (by first | (simp only [k_read, if_neg c6, if_neg c15, if_pos c32, e47, if_neg c47, e72]; done) | contradiction) dX3_read_76
      ·
        exact me_xthr (names := ex_nm) (text := "all is down") (sa := sa) hx hb hln 2 hown rfl ex_f2 ex_fn kl83 ki2 (by decide +kernel) (fun w hw => hts w (by first | exact List.mem_cons_of_mem _ (List.mem_append_right _ hw) | exact List.mem_cons_of_mem _ (List.mem_append_left _ (List.mem_append_right _ hw)))) ex_b2 ex_g2 hE hK hP hD hS (hl.1.trans hml.symm) dX3_read_35 dX3_read_38 dX3_read_39 dX3_read_41 dX3_read_44 ht (Nat.le_of_ble_eq_true rfl) (Nat.le_of_ble_eq_true rfl) (Nat.le_of_ble_eq_true rfl) (Nat.le_of_ble_eq_true rfl) hlocks (by decide) (by first | (simp only [k_read, if_neg c6, if_neg c15, if_neg c32]; done) | contradiction)
    ·
      exact me_xthr (names := ex_nm) (text := "no such page or word") (sa := sa) hx hb hln 1 hown rfl ex_f1 ex_fn kl74 ki1 (by decide +kernel) (fun w hw => hts w (by first | exact List.mem_cons_of_mem _ (List.mem_append_right _ hw) | exact List.mem_cons_of_mem _ (List.mem_append_left _ (List.mem_append_right _ hw)))) ex_b1 ex_g1 hE hK hP hD hS (hl.1.trans hml.symm) dX3_read_18 dX3_read_21 dX3_read_22 dX3_read_24 dX3_read_27 ht (Nat.le_of_ble_eq_true rfl) (Nat.le_of_ble_eq_true rfl) (Nat.le_of_ble_eq_true rfl) (Nat.le_of_ble_eq_true rfl) hlocks (by decide) (by first | (simp only [k_read, if_neg c6, if_pos c15]; done) | contradiction)

def k_rec  (σ : me_M) : me_F := if (σ 0 5) = 0 then ((2, 0, σ)) else (let q18 := k_mend σ; let r18 := q18.1; let s18 := q18.2; if r18 = 0 then (let q25 := k_lose s18; let r25 := q25.1; let s25 := q25.2; (0, r25, s25)) else (let q30 := k_redo s18; let r30 := q30.1; let s30 := q30.2; if r30 = (-3) then (let q41 := k_lose s30; let r41 := q41.1; let s41 := q41.2; (0, r41, s41)) else (let s47 := me_st s30 0 12 r30; let s52 := me_st s47 0 5 (nI 0); (0, (s52 0 12) - (nI 1), s52))))
set_option maxRecDepth 100000 in
set_option maxHeartbeats 4000000 in
theorem c_X3_recover (l : Launch) (hln : l.stackTraces = false) (D : va_G) (cy : Nat → ClassId) (ad : Nat → Nat) (xr : va_W) (sa : Nat → Nat)  (σ : me_M) (hI : k_I σ) (sz : Nat) : me_Xi l yX3_recover wsX3_recover ({ frames := 6, cells := 1, slots := 6, locals := 147 }) D (me_T cy) (kk_W cy ad xr) [.ref (ad 0)] sz σ sa (k_rec  σ) := by
  refine vx_ofW (cc := cX3_recover) (maxL := 2) (ret := (some .int)) (by decide) rfl ?_
  intro p e st m args below meth c s₁ B hml ht hv
  obtain ⟨rfl, ⟨hsz, hP, hK, hD0⟩, hE⟩ := hv
  have hx := B.exec
  have hb := B.bytes
  have hr := B.returns
  have hts := atoms_spec (ws := wsX3_recover) B.pre
  have hown : st.vm.findClass RX3 = some m.cls := findClass_of_methodNamed B.named
  have hlocks := B.notSynchronized
  have in3 : ∀ w ∈ u_ws RX3 TX3 15, w ∈ wsX3_recover := by decide +kernel
  have k31 := hts (.fieldLink RX3 31 "TwinWrites" "down" "Z") (by decide +kernel)
  have k56 := hts (.fieldLink RX3 56 "TwinWrites" "nextNumber" "I") (by decide +kernel)
  subst hsz
  have hD := hD0.self (sz := st.heap.size)
  have hA : ∀ q : Nat, st.heap.size ≤ q → va_A ((kk_W cy ad xr) σ) st.heap.size q := fun q h => Or.inr h
  have hS : va_S (va_A ((kk_W cy ad xr) σ) st.heap.size) st.heap st.heap [] := va_S.rf
  generalize va_A ((kk_W cy ad xr) σ) st.heap.size = A at hD hA hS hE ⊢
  have kl83 : (Cond.classLink RX3 83 (ex_N 2)).before ([.ref (ad 0)] : List Value).toArray st = true := hts (.classLink RX3 83 "java/lang/IllegalStateException") (by decide +kernel)
  have ki2 : (Cond.initialized (ex_N 2)).before ([.ref (ad 0)] : List Value).toArray st = true := hts (.initialized "java/lang/IllegalStateException") (by decide +kernel)
  have hl := lv_entry ([.ref (ad 0)]) (n := 2) (Nat.le_of_ble_eq_true rfl)
  rw [lg_entry_eq]
  generalize (lg_sl ([.ref (ad 0)]) ++ List.replicate (2 - (lg_sl ([.ref (ad 0)])).length) Slot.unset).toArray = ls at hl ⊢
  have hl : lv_has ls 2 [(0, .ref (ad 0))] := hl
  refine lv_aload_n hx hb dX3_recover_0 rfl (lv_at hl 0 rfl) ?_
  refine va_get (D := D) (ci := 3) (v := .int (σ 0 5)) (C := RX3) (T := TX3) (N := 15) hx hb hts in3 hown hK hP 0 (me_get (by omega) (kk_0 cy ad _)) rfl 5 (by decide) k31 (fun _ h9 => h9) rfl dX3_recover_1 ?_
  refine lv_if_ne (tgt := 17) hx hb dX3_recover_4 (by decide) (fun c4 => ?_) (fun c4 => ?_)
  ·
    refine lv_aload_n hx hb dX3_recover_17 rfl (lv_at hl 0 rfl) ?_
    refine me_calli (f := k_mend σ) (w := (kk_W cy ad xr)) (σ := σ) (As := []) (rest := []) ⟨hx, hb, hml, hown, hts⟩ (fun sz => c_X3_mendHomes l D cy ad xr  σ  sz) (cwV 0 hts gX3_recover_X3_mendHomes rfl rfl rfl (by decide +kernel) ⟨Nat.le_of_ble_eq_true rfl, Nat.le_of_ble_eq_true rfl⟩) (va_recv hK hP (ci := 3) (q0 := 0) rfl (me_get (by omega) (kk_0 cy ad _))) hK hP hD hS hA rfl hl.1 rfl (Nat.le_of_ble_eq_true rfl) dX3_recover_18 ⟨Nat.zero_le _, Nat.zero_le _⟩ (fun r18 s18 H locs e18 hP hD hS => ?_)
    refine lv_if_ne (tgt := 29) hx hb dX3_recover_21 (by decide) (fun c21 => ?_) (fun c21 => ?_)
    ·
      refine lv_aload_n hx hb dX3_recover_29 rfl (lv_at hl 0 rfl) ?_
      refine me_calli (f := k_redo s18) (w := (kk_W cy ad xr)) (σ := s18) (As := []) (rest := []) ⟨hx, hb, hml, hown, hts⟩ (fun sz => c_X3_redoLogged l D cy ad xr  s18 (pu_mend_I e18 hI) sz) (cwV 0 hts gX3_recover_X3_redoLogged rfl rfl rfl (by decide +kernel) ⟨Nat.le_of_ble_eq_true rfl, Nat.le_of_ble_eq_true rfl⟩) (va_recv hK hP (ci := 3) (q0 := 0) rfl (me_get (by omega) (kk_0 cy ad _))) hK hP hD hS hA rfl hl.1 rfl (Nat.le_of_ble_eq_true rfl) dX3_recover_30 ⟨Nat.zero_le _, Nat.zero_le _⟩ (fun r30 s30 H locs e30 hP hD hS => ?_)
      refine lv_istore_n (lv' := [(1, .int r30), (0, .ref (ad 0))]) hx hb dX3_recover_33 rfl hl (by decide) rfl (fun ls hl => ?_)
      refine lv_iload_n hx hb dX3_recover_34 rfl (lv_at hl 0 rfl) ?_
      refine lv_bipush (v := (-3)) hx hb dX3_recover_35 (by decide) ?_
      refine lv_icmp_ne (tgt := 45) hx hb dX3_recover_37 (by decide) (fun c37 => ?_) (fun c37 => ?_)
      ·
        refine lv_aload_n hx hb dX3_recover_45 rfl (lv_at hl 1 rfl) ?_
        refine lv_iload_n hx hb dX3_recover_46 rfl (lv_at hl 0 rfl) ?_
        refine me_put (ty := .int) (ci := 3) (C := RX3) (T := TX3) (M := 15) hx hb hts in3 tyX3 tyX3_ok nmX3 hown hK hP hD hS 0 (by omega) (kk_0 cy ad _) rfl 12 (by decide) k56 (fun _ h9 => h9) rfl (by decide +kernel) rfl rfl (Nat.le_of_ble_eq_true rfl) (kk_0 cy ad _) dX3_recover_47 (fun s47 H locs e47 hP hD hS => ?_)
        refine lv_aload_n hx hb dX3_recover_50 rfl (lv_at hl 1 rfl) ?_
        refine lv_iconst (v := nI 0) hx hb dX3_recover_51 (by decide) ?_
        refine me_put (ty := .boolean) (ci := 3) (C := RX3) (T := TX3) (M := 15) hx hb hts in3 tyX3 tyX3_ok nmX3 hown hK hP hD hS 0 (by omega) (kk_0 cy ad _) rfl 5 (by decide) k31 (fun _ h9 => h9) rfl (by decide +kernel) rfl rfl (Nat.le_of_ble_eq_true rfl) (kk_0 cy ad _) dX3_recover_52 (fun s52 H locs e52 hP hD hS => ?_)
        refine lv_aload_n hx hb dX3_recover_55 rfl (lv_at hl 1 rfl) ?_
        refine va_get (D := D) (ci := 3) (v := .int (s52 0 12)) (C := RX3) (T := TX3) (N := 15) hx hb hts in3 hown hK hP 0 (me_get (by omega) (kk_0 cy ad _)) rfl 12 (by decide) k56 (fun _ h9 => h9) rfl dX3_recover_56 ?_
        refine lv_iconst (v := nI 1) hx hb dX3_recover_59 (by decide) ?_
        refine lv_isub hx hb dX3_recover_60 ?_
        exact me_xreti hx hb hr rfl hlocks hK hP hD hS (Nat.le_of_ble_eq_true rfl) (Nat.le_of_ble_eq_true rfl) (by first | (simp only [k_rec, if_neg c4, e18, if_neg c21, e30, if_neg c37, e47, e52]; done) | contradiction) dX3_recover_61
      ·
        refine lv_aload_n hx hb dX3_recover_40 rfl (lv_at hl 1 rfl) ?_
        refine me_calli (f := k_lose s30) (w := (kk_W cy ad xr)) (σ := s30) (As := []) (rest := []) ⟨hx, hb, hml, hown, hts⟩ (fun sz => c_X3_lose l D cy ad xr  s30  sz) (cwV 0 hts gX3_recover_X3_lose rfl rfl rfl (by decide +kernel) ⟨Nat.le_of_ble_eq_true rfl, Nat.le_of_ble_eq_true rfl⟩) (va_recv hK hP (ci := 3) (q0 := 0) rfl (me_get (by omega) (kk_0 cy ad _))) hK hP hD hS hA rfl hl.1 rfl (Nat.le_of_ble_eq_true rfl) dX3_recover_41 ⟨Nat.zero_le _, Nat.zero_le _⟩ (fun r41 s41 H locs e41 hP hD hS => ?_)
        exact me_xreti hx hb hr rfl hlocks hK hP hD hS (Nat.le_of_ble_eq_true rfl) (Nat.le_of_ble_eq_true rfl) (by first | (simp only [k_rec, if_neg c4, e18, if_neg c21, e30, if_pos c37, e41]; done) | contradiction) dX3_recover_44
    ·
      refine lv_aload_n hx hb dX3_recover_24 rfl (lv_at hl 0 rfl) ?_
      refine me_calli (f := k_lose s18) (w := (kk_W cy ad xr)) (σ := s18) (As := []) (rest := []) ⟨hx, hb, hml, hown, hts⟩ (fun sz => c_X3_lose l D cy ad xr  s18  sz) (cwV 0 hts gX3_recover_X3_lose rfl rfl rfl (by decide +kernel) ⟨Nat.le_of_ble_eq_true rfl, Nat.le_of_ble_eq_true rfl⟩) (va_recv hK hP (ci := 3) (q0 := 0) rfl (me_get (by omega) (kk_0 cy ad _))) hK hP hD hS hA rfl hl.1 rfl (Nat.le_of_ble_eq_true rfl) dX3_recover_25 ⟨Nat.zero_le _, Nat.zero_le _⟩ (fun r25 s25 H locs e25 hP hD hS => ?_)
      exact me_xreti hx hb hr rfl hlocks hK hP hD hS (Nat.le_of_ble_eq_true rfl) (Nat.le_of_ble_eq_true rfl) (by first | (simp only [k_rec, if_neg c4, e18, if_pos c21, e25]; done) | contradiction) dX3_recover_28
  ·
    exact me_xthr (names := ex_nm) (text := "all is not down") (sa := sa) hx hb hln 2 hown rfl ex_f2 ex_fn kl83 ki2 (by decide +kernel) (fun w hw => hts w (by first | exact List.mem_cons_of_mem _ (List.mem_append_right _ hw) | exact List.mem_cons_of_mem _ (List.mem_append_left _ (List.mem_append_right _ hw)))) ex_b2 ex_g2 hE hK hP hD hS (hl.1.trans hml.symm) dX3_recover_7 dX3_recover_10 dX3_recover_11 dX3_recover_13 dX3_recover_16 ht (Nat.le_of_ble_eq_true rfl) (Nat.le_of_ble_eq_true rfl) (Nat.le_of_ble_eq_true rfl) (Nat.le_of_ble_eq_true rfl) hlocks (by decide) (by first | (simp only [k_rec, if_pos c4]; done) | contradiction)

def k_chg (a : Int32) (b : Int32) (w : Int32) (x : Int32) (y : Int32) (σ : me_M) : me_F := if (k_isIn a (nI 12)) = 0 then ((1, 0, σ)) else (if (k_isIn b (nI 16)) = 0 then ((1, 0, σ)) else (if w < nI 1 then ((1, 0, σ)) else (if w ≤ (nI 16) - b then (if (σ 0 5) = 0 then (let r69 := k_room σ; if w ≤ r69 then (let q103 := k_br a.toNatClampNeg σ; let r103 := q103.1; let s103 := q103.2; if r103 = (-3) then (let q114 := k_lose s103; let r114 := q114.1; let s114 := q114.2; (0, r114, s114)) else (let s127 := k_chw r103.toNatClampNeg b.toNatClampNeg w.toNatClampNeg x y s103; (0, (s127 0 12) - (nI 1), s127))) else (let q77 := k_cam σ; let r77 := q77.1; let s77 := q77.2; if r77 = (-3) then (let q86 := k_lose s77; let r86 := q86.1; let s86 := q86.2; (0, r86, s86)) else (let r91 := k_room s77; if w ≤ r91 then (let q103 := k_br a.toNatClampNeg s77; let r103 := q103.1; let s103 := q103.2; if r103 = (-3) then (let q114 := k_lose s103; let r114 := q114.1; let s114 := q114.2; (0, r114, s114)) else (let s127 := k_chw r103.toNatClampNeg b.toNatClampNeg w.toNatClampNeg x y s103; (0, (s127 0 12) - (nI 1), s127))) else ((0, (-2), s77))))) else ((2, 0, σ))) else ((1, 0, σ)))))
set_option maxRecDepth 100000 in
set_option maxHeartbeats 4000000 in
theorem c_X3_change (l : Launch) (hln : l.stackTraces = false) (D : va_G) (cy : Nat → ClassId) (ad : Nat → Nat) (xr : va_W) (sa : Nat → Nat) (a : Int32) (b : Int32) (w : Int32) (x : Int32) (y : Int32) (σ : me_M) (hI : k_I σ) (sz : Nat) : me_Xi l yX3_change wsX3_change ({ frames := 6, cells := 1, slots := 6, locals := 123 }) D (me_T cy) (kk_W cy ad xr) [.ref (ad 0), .int a, .int b, .int w, .int x, .int y] sz σ sa (k_chg a b w x y σ) := by
  refine vx_ofW (cc := cX3_change) (maxL := 7) (ret := (some .int)) (by decide) rfl ?_
  intro p e st m args below meth c s₁ B hml ht hv
  obtain ⟨rfl, ⟨hsz, hP, hK, hD0⟩, hE⟩ := hv
  have hx := B.exec
  have hb := B.bytes
  have hr := B.returns
  have hts := atoms_spec (ws := wsX3_change) B.pre
  have hown : st.vm.findClass RX3 = some m.cls := findClass_of_methodNamed B.named
  have hlocks := B.notSynchronized
  have in3 : ∀ w ∈ u_ws RX3 TX3 15, w ∈ wsX3_change := by decide +kernel
  have k31 := hts (.fieldLink RX3 31 "TwinWrites" "down" "Z") (by decide +kernel)
  have k56 := hts (.fieldLink RX3 56 "TwinWrites" "nextNumber" "I") (by decide +kernel)
  subst hsz
  have hD := hD0.self (sz := st.heap.size)
  have hA : ∀ q : Nat, st.heap.size ≤ q → va_A ((kk_W cy ad xr) σ) st.heap.size q := fun q h => Or.inr h
  have hS : va_S (va_A ((kk_W cy ad xr) σ) st.heap.size) st.heap st.heap [] := va_S.rf
  generalize va_A ((kk_W cy ad xr) σ) st.heap.size = A at hD hA hS hE ⊢
  have kl74 : (Cond.classLink RX3 74 (ex_N 1)).before ([.ref (ad 0), .int a, .int b, .int w, .int x, .int y] : List Value).toArray st = true := hts (.classLink RX3 74 "java/lang/IndexOutOfBoundsException") (by decide +kernel)
  have ki1 : (Cond.initialized (ex_N 1)).before ([.ref (ad 0), .int a, .int b, .int w, .int x, .int y] : List Value).toArray st = true := hts (.initialized "java/lang/IndexOutOfBoundsException") (by decide +kernel)
  have kl83 : (Cond.classLink RX3 83 (ex_N 2)).before ([.ref (ad 0), .int a, .int b, .int w, .int x, .int y] : List Value).toArray st = true := hts (.classLink RX3 83 "java/lang/IllegalStateException") (by decide +kernel)
  have ki2 : (Cond.initialized (ex_N 2)).before ([.ref (ad 0), .int a, .int b, .int w, .int x, .int y] : List Value).toArray st = true := hts (.initialized "java/lang/IllegalStateException") (by decide +kernel)
  have hl := lv_entry ([.ref (ad 0), .int a, .int b, .int w, .int x, .int y]) (n := 7) (Nat.le_of_ble_eq_true rfl)
  rw [lg_entry_eq]
  generalize (lg_sl ([.ref (ad 0), .int a, .int b, .int w, .int x, .int y]) ++ List.replicate (7 - (lg_sl ([.ref (ad 0), .int a, .int b, .int w, .int x, .int y])).length) Slot.unset).toArray = ls at hl ⊢
  have hl : lv_has ls 7 [(0, .ref (ad 0)), (1, .int a), (2, .int b), (3, .int w), (4, .int x), (5, .int y)] := hl
  refine lv_iload_n hx hb dX3_change_0 rfl (lv_at hl 1 rfl) ?_
  refine lv_bipush (v := nI 12) hx hb dX3_change_1 (by decide) ?_
  refine me_calls (As := [.int a, .int (nI 12)]) (rest := []) ⟨hx, hb, hml, hown, hts⟩ (c_X3_isIn l a (nI 12) ) (cwS 2 hts gX3_change_X3_isIn rfl rfl rfl (by decide +kernel) ⟨Nat.le_of_ble_eq_true rfl, Nat.le_of_ble_eq_true rfl⟩) rfl hl.1 rfl (Nat.le_of_ble_eq_true rfl) dX3_change_3 ⟨Nat.zero_le _, Nat.zero_le _⟩ ?_
  refine lv_if_eq (tgt := 18) hx hb dX3_change_6 (by decide) (fun c6 => ?_) (fun c6 => ?_)
  ·
    exact me_xthr (names := ex_nm) (text := "no such page or word") (sa := sa) hx hb hln 1 hown rfl ex_f1 ex_fn kl74 ki1 (by decide +kernel) (fun w hw => hts w (by first | exact List.mem_cons_of_mem _ (List.mem_append_right _ hw) | exact List.mem_cons_of_mem _ (List.mem_append_left _ (List.mem_append_right _ hw)))) ex_b1 ex_g1 hE hK hP hD hS (hl.1.trans hml.symm) dX3_change_18 dX3_change_21 dX3_change_22 dX3_change_24 dX3_change_27 ht (Nat.le_of_ble_eq_true rfl) (Nat.le_of_ble_eq_true rfl) (Nat.le_of_ble_eq_true rfl) (Nat.le_of_ble_eq_true rfl) hlocks (by decide) (by first | (simp only [k_chg, if_pos c6]; done) | contradiction | exact absurd (by rw [← e91, e69]; exact c73) c95)
  ·
    refine lv_iload_n hx hb dX3_change_9 rfl (lv_at hl 2 rfl) ?_
    refine lv_bipush (v := nI 16) hx hb dX3_change_10 (by decide) ?_
    refine me_calls (As := [.int b, .int (nI 16)]) (rest := []) ⟨hx, hb, hml, hown, hts⟩ (c_X3_isIn l b (nI 16) ) (cwS 2 hts gX3_change_X3_isIn rfl rfl rfl (by decide +kernel) ⟨Nat.le_of_ble_eq_true rfl, Nat.le_of_ble_eq_true rfl⟩) rfl hl.1 rfl (Nat.le_of_ble_eq_true rfl) dX3_change_12 ⟨Nat.zero_le _, Nat.zero_le _⟩ ?_
    refine lv_if_ne (tgt := 28) hx hb dX3_change_15 (by decide) (fun c15 => ?_) (fun c15 => ?_)
    ·
      refine lv_iload_n hx hb dX3_change_28 rfl (lv_at hl 3 rfl) ?_
      refine lv_iconst (v := nI 1) hx hb dX3_change_29 (by decide) ?_
      refine lv_icmp_lt (tgt := 41) hx hb dX3_change_30 (by decide) (fun c30 => ?_) (fun c30 => ?_)
      ·
        exact me_xthr (names := ex_nm) (text := "no such count of words from there") (sa := sa) hx hb hln 1 hown rfl ex_f1 ex_fn kl74 ki1 (by decide +kernel) (fun w hw => hts w (by first | exact List.mem_cons_of_mem _ (List.mem_append_right _ hw) | exact List.mem_cons_of_mem _ (List.mem_append_left _ (List.mem_append_right _ hw)))) ex_b1 ex_g1 hE hK hP hD hS (hl.1.trans hml.symm) dX3_change_41 dX3_change_44 dX3_change_45 dX3_change_47 dX3_change_50 ht (Nat.le_of_ble_eq_true rfl) (Nat.le_of_ble_eq_true rfl) (Nat.le_of_ble_eq_true rfl) (Nat.le_of_ble_eq_true rfl) hlocks (by decide) (by first | (simp only [k_chg, if_neg c6, if_neg c15, if_pos c30]; done) | contradiction | exact absurd (by rw [← e91, e69]; exact c73) c95)
      ·
        refine lv_iload_n hx hb dX3_change_33 rfl (lv_at hl 3 rfl) ?_
        refine lv_bipush (v := nI 16) hx hb dX3_change_34 (by decide) ?_
        refine lv_iload_n hx hb dX3_change_36 rfl (lv_at hl 2 rfl) ?_
        refine lv_isub hx hb dX3_change_37 ?_
        refine lv_icmp_le (tgt := 51) hx hb dX3_change_38 (by decide) (fun c38 => ?_) (fun c38 => ?_)
        ·
          have hB := pu_kchg c15 c30 c38
          refine lv_aload_n hx hb dX3_change_51 rfl (lv_at hl 0 rfl) ?_
          refine va_get (D := D) (ci := 3) (v := .int (σ 0 5)) (C := RX3) (T := TX3) (N := 15) hx hb hts in3 hown hK hP 0 (me_get (by omega) (kk_0 cy ad _)) rfl 5 (by decide) k31 (fun _ h9 => h9) rfl dX3_change_52 ?_
          refine lv_if_eq (tgt := 68) hx hb dX3_change_55 (by decide) (fun c55 => ?_) (fun c55 => ?_)
          ·
            refine lv_aload_n hx hb dX3_change_68 rfl (lv_at hl 0 rfl) ?_
            refine me_callr (f := k_room σ) (w := (kk_W cy ad xr)) (σ := σ) (As := []) (rest := []) ⟨hx, hb, hml, hown, hts⟩ (fun sz => c_X3_room l D cy ad xr  σ  sz) (cwV 0 hts gX3_change_X3_room rfl rfl rfl (by decide +kernel) ⟨Nat.le_of_ble_eq_true rfl, Nat.le_of_ble_eq_true rfl⟩) (va_recv hK hP (ci := 3) (q0 := 0) rfl (me_get (by omega) (kk_0 cy ad _))) hK hP hD hS hA rfl hl.1 rfl (Nat.le_of_ble_eq_true rfl) dX3_change_69 ⟨Nat.zero_le _, Nat.zero_le _⟩ (fun r69 H locs e69 hP hD hS => ?_)
            refine lv_iload_n hx hb dX3_change_72 rfl (lv_at hl 3 rfl) ?_
            refine lv_icmp_ge (tgt := 101) hx hb dX3_change_73 (by decide) (fun c73 => ?_) (fun c73 => ?_)
            ·
              refine lv_aload_n hx hb dX3_change_101 rfl (lv_at hl 0 rfl) ?_
              refine lv_iload_n hx hb dX3_change_102 rfl (lv_at hl 1 rfl) ?_
              have b102 := me_inb (pu_isIn c6)
              refine me_top (me_ine (pu_isIn c6)) ?_
              refine me_callf (z := (-3)) (f := k_br a.toNatClampNeg σ) (w := (kk_W cy ad xr)) (σ := σ) (ad := ad) (As := [.int (nI a.toNatClampNeg)]) (rest := []) ⟨hx, hb, hml, hown, hts⟩ (fun sz => c_X3_bring l D cy ad xr a.toNatClampNeg σ (by omega) (by first | exact hI | exact hI77) sz) (cwV 1 hts gX3_change_X3_bring rfl rfl rfl (by decide +kernel) ⟨Nat.le_of_ble_eq_true rfl, Nat.le_of_ble_eq_true rfl⟩) (va_recv hK hP (ci := 3) (q0 := 0) rfl (me_get (by omega) (kk_0 cy ad _))) hK hP hD hS hA rfl hl.1 rfl (Nat.le_of_ble_eq_true rfl) dX3_change_103 ⟨Nat.zero_le _, Nat.zero_le _⟩ (fun r103 s103 H locs e103 c103 hP hD hS => ?_) (fun r103 s103 H locs e103 c103 hP hD hS => ?_)
              ·
                refine lv_astoreN (lv' := [(6, .null), (0, .ref (ad 0)), (1, .int a), (2, .int b), (3, .int w), (4, .int x), (5, .int y)]) hx hb dX3_change_106 hl (by decide) rfl (fun ls hl => ?_)
                refine lv_aloadN hx hb dX3_change_108 (lv_at hl 0 rfl) ?_
                refine lv_ifnonnullN hx hb dX3_change_110 ?_
                refine lv_aload_n hx hb dX3_change_113 rfl (lv_at hl 1 rfl) ?_
                refine me_calli (f := k_lose s103) (w := (kk_W cy ad xr)) (σ := s103) (As := []) (rest := []) ⟨hx, hb, hml, hown, hts⟩ (fun sz => c_X3_lose l D cy ad xr  s103  sz) (cwV 0 hts gX3_change_X3_lose rfl rfl rfl (by decide +kernel) ⟨Nat.le_of_ble_eq_true rfl, Nat.le_of_ble_eq_true rfl⟩) (va_recv hK hP (ci := 3) (q0 := 0) rfl (me_get (by omega) (kk_0 cy ad _))) hK hP hD hS hA rfl hl.1 rfl (Nat.le_of_ble_eq_true rfl) dX3_change_114 ⟨Nat.zero_le _, Nat.zero_le _⟩ (fun r114 s114 H locs e114 hP hD hS => ?_)
                exact me_xreti hx hb hr rfl hlocks hK hP hD hS (Nat.le_of_ble_eq_true rfl) (Nat.le_of_ble_eq_true rfl) (by first | (simp only [k_chg, if_neg c6, if_neg c15, if_neg c30, if_pos c38, if_pos c55, e69, if_pos c73, e103, if_pos c103, e114]; done) | contradiction | exact absurd (by rw [← e91, e69]; exact c73) c95) dX3_change_117
              ·
                have b103 : r103.toNatClampNeg < 4 := by first | exact me_inb (pu_br_in e103 b102 hI c103) | exact me_inb (pu_br_in e103 b102 hI77 c103)
                refine lv_astore (lv' := [(6, .ref (ad (94 + 2 * r103.toNatClampNeg))), (0, .ref (ad 0)), (1, .int a), (2, .int b), (3, .int w), (4, .int x), (5, .int y)]) hx hb dX3_change_106 hl (by decide) rfl (fun ls hl => ?_)
                refine lv_aload hx hb dX3_change_108 (lv_at hl 0 rfl) ?_
                refine lv_ifnonnull (tgt := 118) hx hb dX3_change_110 (by decide) ?_
                refine lv_aload_n hx hb dX3_change_118 rfl (lv_at hl 1 rfl) ?_
                refine lv_aload hx hb dX3_change_119 (lv_at hl 0 rfl) ?_
                refine lv_iload_n hx hb dX3_change_121 rfl (lv_at hl 3 rfl) ?_
                have b121 := me_inb hB.1
                refine me_top (me_ine hB.1) ?_
                refine lv_iload_n hx hb dX3_change_122 rfl (lv_at hl 4 rfl) ?_
                have b122 := me_inb hB.2.1
                refine me_top (me_ine hB.2.1) ?_
                refine lv_iload hx hb dX3_change_123 (lv_at hl 5 rfl) ?_
                refine lv_iload hx hb dX3_change_125 (lv_at hl 6 rfl) ?_
                refine me_callv (f := k_chw r103.toNatClampNeg b.toNatClampNeg w.toNatClampNeg x y s103) (w := (kk_W cy ad xr)) (σ := s103) (As := [.ref (ad (94 + 2 * r103.toNatClampNeg)), .int (nI b.toNatClampNeg), .int (nI w.toNatClampNeg), .int x, .int y]) (rest := []) ⟨hx, hb, hml, hown, hts⟩ (fun sz => c_X3_changeWords l D cy ad xr r103.toNatClampNeg b.toNatClampNeg w.toNatClampNeg x y s103 (by omega) (by omega) sz) (cwV 5 hts gX3_change_X3_changeWords rfl rfl rfl (by decide +kernel) ⟨Nat.le_of_ble_eq_true rfl, Nat.le_of_ble_eq_true rfl⟩) (va_recv hK hP (ci := 3) (q0 := 0) rfl (me_get (by omega) (kk_0 cy ad _))) hK hP hD hS hA rfl hl.1 rfl (Nat.le_of_ble_eq_true rfl) dX3_change_127 ⟨Nat.zero_le _, Nat.zero_le _⟩ (fun s127 H locs e127 hP hD hS => ?_)
                refine lv_aload_n hx hb dX3_change_130 rfl (lv_at hl 1 rfl) ?_
                refine va_get (D := D) (ci := 3) (v := .int (s127 0 12)) (C := RX3) (T := TX3) (N := 15) hx hb hts in3 hown hK hP 0 (me_get (by omega) (kk_0 cy ad _)) rfl 12 (by decide) k56 (fun _ h9 => h9) rfl dX3_change_131 ?_
                refine lv_iconst (v := nI 1) hx hb dX3_change_134 (by decide) ?_
                refine lv_isub hx hb dX3_change_135 ?_
                exact me_xreti hx hb hr rfl hlocks hK hP hD hS (Nat.le_of_ble_eq_true rfl) (Nat.le_of_ble_eq_true rfl) (by first | (simp only [k_chg, if_neg c6, if_neg c15, if_neg c30, if_pos c38, if_pos c55, e69, if_pos c73, e103, if_neg c103, e127]; done) | contradiction | exact absurd (by rw [← e91, e69]; exact c73) c95) dX3_change_136
            ·
              refine lv_aload_n hx hb dX3_change_76 rfl (lv_at hl 0 rfl) ?_
              refine me_calli (f := k_cam σ) (w := (kk_W cy ad xr)) (σ := σ) (As := []) (rest := []) ⟨hx, hb, hml, hown, hts⟩ (fun sz => c_X3_cleanAllAndMark l D cy ad xr  σ (hI) sz) (cwV 0 hts gX3_change_X3_cleanAllAndMark rfl rfl rfl (by decide +kernel) ⟨Nat.le_of_ble_eq_true rfl, Nat.le_of_ble_eq_true rfl⟩) (va_recv hK hP (ci := 3) (q0 := 0) rfl (me_get (by omega) (kk_0 cy ad _))) hK hP hD hS hA rfl hl.1 rfl (Nat.le_of_ble_eq_true rfl) dX3_change_77 ⟨Nat.zero_le _, Nat.zero_le _⟩ (fun r77 s77 H locs e77 hP hD hS => ?_)
              have hI77 := pu_cam_I e77 hI
              refine lv_bipush (v := (-3)) hx hb dX3_change_80 (by decide) ?_
              refine lv_icmp_ne (tgt := 90) hx hb dX3_change_82 (by decide) (fun c82 => ?_) (fun c82 => ?_)
              ·
                refine lv_aload_n hx hb dX3_change_90 rfl (lv_at hl 0 rfl) ?_
                refine me_callr (f := k_room s77) (w := (kk_W cy ad xr)) (σ := s77) (As := []) (rest := []) ⟨hx, hb, hml, hown, hts⟩ (fun sz => c_X3_room l D cy ad xr  s77  sz) (cwV 0 hts gX3_change_X3_room rfl rfl rfl (by decide +kernel) ⟨Nat.le_of_ble_eq_true rfl, Nat.le_of_ble_eq_true rfl⟩) (va_recv hK hP (ci := 3) (q0 := 0) rfl (me_get (by omega) (kk_0 cy ad _))) hK hP hD hS hA rfl hl.1 rfl (Nat.le_of_ble_eq_true rfl) dX3_change_91 ⟨Nat.zero_le _, Nat.zero_le _⟩ (fun r91 H locs e91 hP hD hS => ?_)
                refine lv_iload_n hx hb dX3_change_94 rfl (lv_at hl 3 rfl) ?_
                refine lv_icmp_ge (tgt := 101) hx hb dX3_change_95 (by decide) (fun c95 => ?_) (fun c95 => ?_)
                ·
                  refine lv_aload_n hx hb dX3_change_101 rfl (lv_at hl 0 rfl) ?_
                  refine lv_iload_n hx hb dX3_change_102 rfl (lv_at hl 1 rfl) ?_
                  have b102 := me_inb (pu_isIn c6)
                  refine me_top (me_ine (pu_isIn c6)) ?_
                  refine me_callf (z := (-3)) (f := k_br a.toNatClampNeg s77) (w := (kk_W cy ad xr)) (σ := s77) (ad := ad) (As := [.int (nI a.toNatClampNeg)]) (rest := []) ⟨hx, hb, hml, hown, hts⟩ (fun sz => c_X3_bring l D cy ad xr a.toNatClampNeg s77 (by omega) (by first | exact hI | exact hI77) sz) (cwV 1 hts gX3_change_X3_bring rfl rfl rfl (by decide +kernel) ⟨Nat.le_of_ble_eq_true rfl, Nat.le_of_ble_eq_true rfl⟩) (va_recv hK hP (ci := 3) (q0 := 0) rfl (me_get (by omega) (kk_0 cy ad _))) hK hP hD hS hA rfl hl.1 rfl (Nat.le_of_ble_eq_true rfl) dX3_change_103 ⟨Nat.zero_le _, Nat.zero_le _⟩ (fun r103 s103 H locs e103 c103 hP hD hS => ?_) (fun r103 s103 H locs e103 c103 hP hD hS => ?_)
                  ·
                    refine lv_astoreN (lv' := [(6, .null), (0, .ref (ad 0)), (1, .int a), (2, .int b), (3, .int w), (4, .int x), (5, .int y)]) hx hb dX3_change_106 hl (by decide) rfl (fun ls hl => ?_)
                    refine lv_aloadN hx hb dX3_change_108 (lv_at hl 0 rfl) ?_
                    refine lv_ifnonnullN hx hb dX3_change_110 ?_
                    refine lv_aload_n hx hb dX3_change_113 rfl (lv_at hl 1 rfl) ?_
                    refine me_calli (f := k_lose s103) (w := (kk_W cy ad xr)) (σ := s103) (As := []) (rest := []) ⟨hx, hb, hml, hown, hts⟩ (fun sz => c_X3_lose l D cy ad xr  s103  sz) (cwV 0 hts gX3_change_X3_lose rfl rfl rfl (by decide +kernel) ⟨Nat.le_of_ble_eq_true rfl, Nat.le_of_ble_eq_true rfl⟩) (va_recv hK hP (ci := 3) (q0 := 0) rfl (me_get (by omega) (kk_0 cy ad _))) hK hP hD hS hA rfl hl.1 rfl (Nat.le_of_ble_eq_true rfl) dX3_change_114 ⟨Nat.zero_le _, Nat.zero_le _⟩ (fun r114 s114 H locs e114 hP hD hS => ?_)
                    exact me_xreti hx hb hr rfl hlocks hK hP hD hS (Nat.le_of_ble_eq_true rfl) (Nat.le_of_ble_eq_true rfl) (by first | (simp only [k_chg, if_neg c6, if_neg c15, if_neg c30, if_pos c38, if_pos c55, e69, if_neg c73, e77, if_neg c82, e91, if_pos c95, e103, if_pos c103, e114]; done) | contradiction | exact absurd (by rw [← e91, e69]; exact c73) c95) dX3_change_117
                  ·
                    have b103 : r103.toNatClampNeg < 4 := by first | exact me_inb (pu_br_in e103 b102 hI c103) | exact me_inb (pu_br_in e103 b102 hI77 c103)
                    refine lv_astore (lv' := [(6, .ref (ad (94 + 2 * r103.toNatClampNeg))), (0, .ref (ad 0)), (1, .int a), (2, .int b), (3, .int w), (4, .int x), (5, .int y)]) hx hb dX3_change_106 hl (by decide) rfl (fun ls hl => ?_)
                    refine lv_aload hx hb dX3_change_108 (lv_at hl 0 rfl) ?_
                    refine lv_ifnonnull (tgt := 118) hx hb dX3_change_110 (by decide) ?_
                    refine lv_aload_n hx hb dX3_change_118 rfl (lv_at hl 1 rfl) ?_
                    refine lv_aload hx hb dX3_change_119 (lv_at hl 0 rfl) ?_
                    refine lv_iload_n hx hb dX3_change_121 rfl (lv_at hl 3 rfl) ?_
                    have b121 := me_inb hB.1
                    refine me_top (me_ine hB.1) ?_
                    refine lv_iload_n hx hb dX3_change_122 rfl (lv_at hl 4 rfl) ?_
                    have b122 := me_inb hB.2.1
                    refine me_top (me_ine hB.2.1) ?_
                    refine lv_iload hx hb dX3_change_123 (lv_at hl 5 rfl) ?_
                    refine lv_iload hx hb dX3_change_125 (lv_at hl 6 rfl) ?_
                    refine me_callv (f := k_chw r103.toNatClampNeg b.toNatClampNeg w.toNatClampNeg x y s103) (w := (kk_W cy ad xr)) (σ := s103) (As := [.ref (ad (94 + 2 * r103.toNatClampNeg)), .int (nI b.toNatClampNeg), .int (nI w.toNatClampNeg), .int x, .int y]) (rest := []) ⟨hx, hb, hml, hown, hts⟩ (fun sz => c_X3_changeWords l D cy ad xr r103.toNatClampNeg b.toNatClampNeg w.toNatClampNeg x y s103 (by omega) (by omega) sz) (cwV 5 hts gX3_change_X3_changeWords rfl rfl rfl (by decide +kernel) ⟨Nat.le_of_ble_eq_true rfl, Nat.le_of_ble_eq_true rfl⟩) (va_recv hK hP (ci := 3) (q0 := 0) rfl (me_get (by omega) (kk_0 cy ad _))) hK hP hD hS hA rfl hl.1 rfl (Nat.le_of_ble_eq_true rfl) dX3_change_127 ⟨Nat.zero_le _, Nat.zero_le _⟩ (fun s127 H locs e127 hP hD hS => ?_)
                    refine lv_aload_n hx hb dX3_change_130 rfl (lv_at hl 1 rfl) ?_
                    refine va_get (D := D) (ci := 3) (v := .int (s127 0 12)) (C := RX3) (T := TX3) (N := 15) hx hb hts in3 hown hK hP 0 (me_get (by omega) (kk_0 cy ad _)) rfl 12 (by decide) k56 (fun _ h9 => h9) rfl dX3_change_131 ?_
                    refine lv_iconst (v := nI 1) hx hb dX3_change_134 (by decide) ?_
                    refine lv_isub hx hb dX3_change_135 ?_
                    exact me_xreti hx hb hr rfl hlocks hK hP hD hS (Nat.le_of_ble_eq_true rfl) (Nat.le_of_ble_eq_true rfl) (by first | (simp only [k_chg, if_neg c6, if_neg c15, if_neg c30, if_pos c38, if_pos c55, e69, if_neg c73, e77, if_neg c82, e91, if_pos c95, e103, if_neg c103, e127]; done) | contradiction | exact absurd (by rw [← e91, e69]; exact c73) c95) dX3_change_136
                ·
                  refine lv_bipush (v := (-2)) hx hb dX3_change_98 (by decide) ?_
                  exact me_xreti hx hb hr rfl hlocks hK hP hD hS (Nat.le_of_ble_eq_true rfl) (Nat.le_of_ble_eq_true rfl) (by first | (simp only [k_chg, if_neg c6, if_neg c15, if_neg c30, if_pos c38, if_pos c55, e69, if_neg c73, e77, if_neg c82, e91, if_neg c95]; done) | contradiction | exact absurd (by rw [← e91, e69]; exact c73) c95) dX3_change_100
              ·
                refine lv_aload_n hx hb dX3_change_85 rfl (lv_at hl 0 rfl) ?_
                refine me_calli (f := k_lose s77) (w := (kk_W cy ad xr)) (σ := s77) (As := []) (rest := []) ⟨hx, hb, hml, hown, hts⟩ (fun sz => c_X3_lose l D cy ad xr  s77  sz) (cwV 0 hts gX3_change_X3_lose rfl rfl rfl (by decide +kernel) ⟨Nat.le_of_ble_eq_true rfl, Nat.le_of_ble_eq_true rfl⟩) (va_recv hK hP (ci := 3) (q0 := 0) rfl (me_get (by omega) (kk_0 cy ad _))) hK hP hD hS hA rfl hl.1 rfl (Nat.le_of_ble_eq_true rfl) dX3_change_86 ⟨Nat.zero_le _, Nat.zero_le _⟩ (fun r86 s86 H locs e86 hP hD hS => ?_)
                exact me_xreti hx hb hr rfl hlocks hK hP hD hS (Nat.le_of_ble_eq_true rfl) (Nat.le_of_ble_eq_true rfl) (by first | (simp only [k_chg, if_neg c6, if_neg c15, if_neg c30, if_pos c38, if_pos c55, e69, if_neg c73, e77, if_pos c82, e86]; done) | contradiction | exact absurd (by rw [← e91, e69]; exact c73) c95) dX3_change_89
          ·
            exact me_xthr (names := ex_nm) (text := "all is down") (sa := sa) hx hb hln 2 hown rfl ex_f2 ex_fn kl83 ki2 (by decide +kernel) (fun w hw => hts w (by first | exact List.mem_cons_of_mem _ (List.mem_append_right _ hw) | exact List.mem_cons_of_mem _ (List.mem_append_left _ (List.mem_append_right _ hw)))) ex_b2 ex_g2 hE hK hP hD hS (hl.1.trans hml.symm) dX3_change_58 dX3_change_61 dX3_change_62 dX3_change_64 dX3_change_67 ht (Nat.le_of_ble_eq_true rfl) (Nat.le_of_ble_eq_true rfl) (Nat.le_of_ble_eq_true rfl) (Nat.le_of_ble_eq_true rfl) hlocks (by decide) (by first | (simp only [k_chg, if_neg c6, if_neg c15, if_neg c30, if_pos c38, if_neg c55]; done) | contradiction | exact absurd (by rw [← e91, e69]; exact c73) c95)
        ·
          exact me_xthr (names := ex_nm) (text := "no such count of words from there") (sa := sa) hx hb hln 1 hown rfl ex_f1 ex_fn kl74 ki1 (by decide +kernel) (fun w hw => hts w (by first | exact List.mem_cons_of_mem _ (List.mem_append_right _ hw) | exact List.mem_cons_of_mem _ (List.mem_append_left _ (List.mem_append_right _ hw)))) ex_b1 ex_g1 hE hK hP hD hS (hl.1.trans hml.symm) dX3_change_41 dX3_change_44 dX3_change_45 dX3_change_47 dX3_change_50 ht (Nat.le_of_ble_eq_true rfl) (Nat.le_of_ble_eq_true rfl) (Nat.le_of_ble_eq_true rfl) (Nat.le_of_ble_eq_true rfl) hlocks (by decide) (by first | (simp only [k_chg, if_neg c6, if_neg c15, if_neg c30, if_neg c38]; done) | contradiction | exact absurd (by rw [← e91, e69]; exact c73) c95)
    ·
      exact me_xthr (names := ex_nm) (text := "no such page or word") (sa := sa) hx hb hln 1 hown rfl ex_f1 ex_fn kl74 ki1 (by decide +kernel) (fun w hw => hts w (by first | exact List.mem_cons_of_mem _ (List.mem_append_right _ hw) | exact List.mem_cons_of_mem _ (List.mem_append_left _ (List.mem_append_right _ hw)))) ex_b1 ex_g1 hE hK hP hD hS (hl.1.trans hml.symm) dX3_change_18 dX3_change_21 dX3_change_22 dX3_change_24 dX3_change_27 ht (Nat.le_of_ble_eq_true rfl) (Nat.le_of_ble_eq_true rfl) (Nat.le_of_ble_eq_true rfl) (Nat.le_of_ble_eq_true rfl) hlocks (by decide) (by first | (simp only [k_chg, if_neg c6, if_pos c15]; done) | contradiction | exact absurd (by rw [← e91, e69]; exact c73) c95)
