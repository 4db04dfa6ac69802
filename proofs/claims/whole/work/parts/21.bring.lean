def k_br (g : Nat) (σ : me_M) : Int32 × me_M := let r2 := k_fo (nI g) σ; if r2 = (-1) then (let r12 := k_ff σ; if (σ (94 + 2 * r12.toNatClampNeg) 3) = 0 then (let s55 := k_fill r12.toNatClampNeg (nI g) g σ; let s65 := me_st s55 0 13 ((s55 0 13) + (nI 1)); let s78 := me_st s65 (94 + 2 * r12.toNatClampNeg) 4 (s65 0 13); (r12, s78)) else (let q31 := k_cd r12.toNatClampNeg r12.toNatClampNeg σ; let r31 := q31.1; let s31 := q31.2; if r31 = (-3) then (((-3), s31)) else (let s55 := k_fill r12.toNatClampNeg (nI g) g s31; let s65 := me_st s55 0 13 ((s55 0 13) + (nI 1)); let s78 := me_st s65 (94 + 2 * r12.toNatClampNeg) 4 (s65 0 13); (r12, s78)))) else (let s65 := me_st σ 0 13 ((σ 0 13) + (nI 1)); let s78 := me_st s65 (94 + 2 * r2.toNatClampNeg) 4 (s65 0 13); (r2, s78))
set_option maxRecDepth 100000 in
set_option maxHeartbeats 4000000 in
theorem c_X3_bring (l : Launch) (D : va_G) (cy : Nat → ClassId) (ad : Nat → Nat) (xr : va_W) (g : Nat) (σ : me_M) (hg : g < 12) (hI : k_I σ) (sz : Nat) : me_Ci l yX3_bring wsX3_bring ({ frames := 4, cells := 0, slots := 0, locals := 100 }) D (me_T cy) (kk_W cy ad xr) [.ref (ad 0), .int (nI g)] sz σ (k_br g σ) := by
  refine Met.ofW (cc := cX3_bring) (maxL := 3) (ret := (some .int)) (by decide) rfl ?_
  intro p e st m args below meth c s₁ B hml hv
  obtain ⟨rfl, hsz, hP, hK, hD0⟩ := hv
  have hx := B.exec
  have hb := B.bytes
  have hr := B.returns
  have hts := atoms_spec (ws := wsX3_bring) B.pre
  have hown : st.vm.findClass RX3 = some m.cls := findClass_of_methodNamed B.named
  have hlocks := B.notSynchronized
  have in1 : ∀ w ∈ u_ws RX1 TX1 5, w ∈ wsX3_bring := by decide +kernel
  have in3 : ∀ w ∈ u_ws RX3 TX3 15, w ∈ wsX3_bring := by decide +kernel
  have k11 := hts (.fieldLink RX3 11 "TwinWrites" "homes" "[LTwinWrites$Place;") (by decide +kernel)
  have k46 := hts (.fieldLink RX3 46 "TwinWrites" "frames" "[LTwinWrites$Frame;") (by decide +kernel)
  have k59 := hts (.fieldLink RX3 59 "TwinWrites" "askings" "I") (by decide +kernel)
  have k174 := hts (.fieldLink RX3 174 "TwinWrites$Frame" "dirty" "Z") (by decide +kernel)
  have k203 := hts (.fieldLink RX3 203 "TwinWrites$Frame" "asked" "I") (by decide +kernel)
  subst hsz
  have hD := hD0.self (sz := st.heap.size)
  have hA : ∀ q : Nat, st.heap.size ≤ q → va_A ((kk_W cy ad xr) σ) st.heap.size q := fun q h => Or.inr h
  have hS : va_S (va_A ((kk_W cy ad xr) σ) st.heap.size) st.heap st.heap [] := va_S.rf
  generalize va_A ((kk_W cy ad xr) σ) st.heap.size = A at hD hA hS ⊢
  have hl := lv_entry ([.ref (ad 0), .int (nI g)]) (n := 3) (Nat.le_of_ble_eq_true rfl)
  rw [lg_entry_eq]
  generalize (lg_sl ([.ref (ad 0), .int (nI g)]) ++ List.replicate (3 - (lg_sl ([.ref (ad 0), .int (nI g)])).length) Slot.unset).toArray = ls at hl ⊢
  have hl : lv_has ls 3 [(0, .ref (ad 0)), (1, .int (nI g))] := hl
  refine lv_aload_n hx hb dX3_bring_0 rfl (lv_at hl 0 rfl) ?_
  refine lv_iload_n hx hb dX3_bring_1 rfl (lv_at hl 1 rfl) ?_
  refine me_callr (f := k_fo (nI g) σ) (w := (kk_W cy ad xr)) (σ := σ) (As := [.int (nI g)]) (rest := []) ⟨hx, hb, hml, hown, hts⟩ (fun sz => c_X3_frameOf l D cy ad xr (nI g) σ  sz) (cwV 1 hts gX3_bring_X3_frameOf rfl rfl rfl (by decide +kernel) ⟨Nat.le_of_ble_eq_true rfl, Nat.le_of_ble_eq_true rfl⟩) (va_recv hK hP (ci := 3) (q0 := 0) rfl (me_get (by omega) (kk_0 cy ad _))) hK hP hD hS hA rfl hl.1 rfl (Nat.le_of_ble_eq_true rfl) dX3_bring_2 ⟨Nat.zero_le _, Nat.zero_le _⟩ (fun r2 H locs e2 hP hD hS => ?_)
  refine lv_istore_n (lv' := [(2, .int r2), (0, .ref (ad 0)), (1, .int (nI g))]) hx hb dX3_bring_5 rfl hl (by decide) rfl (fun ls hl => ?_)
  refine lv_iload_n hx hb dX3_bring_6 rfl (lv_at hl 0 rfl) ?_
  refine lv_iconst (v := (-1)) hx hb dX3_bring_7 (by decide) ?_
  refine lv_icmp_ne (tgt := 58) hx hb dX3_bring_8 (by decide) (fun c8 => ?_) (fun c8 => ?_)
  ·
    refine lv_aload_n hx hb dX3_bring_58 rfl (lv_at hl 1 rfl) ?_
    refine lv_dup hx hb dX3_bring_59 rfl ?_
    refine va_get (D := D) (ci := 3) (v := .int (σ 0 13)) (C := RX3) (T := TX3) (N := 15) hx hb hts in3 hown hK hP 0 (me_get (by omega) (kk_0 cy ad _)) rfl 13 (by decide) k59 (fun _ h9 => h9) rfl dX3_bring_60 ?_
    refine lv_iconst (v := nI 1) hx hb dX3_bring_63 (by decide) ?_
    refine lv_iadd hx hb dX3_bring_64 ?_
    refine me_put (ty := .int) (ci := 3) (C := RX3) (T := TX3) (M := 15) hx hb hts in3 tyX3 tyX3_ok nmX3 hown hK hP hD hS 0 (by omega) (kk_0 cy ad _) rfl 13 (by decide) k59 (fun _ h9 => h9) rfl (by decide +kernel) rfl rfl (Nat.le_of_ble_eq_true rfl) (kk_0 cy ad _) dX3_bring_65 (fun s65 H locs e65 hP hD hS => ?_)
    refine lv_aload_n hx hb dX3_bring_68 rfl (lv_at hl 1 rfl) ?_
    refine va_get (D := D) (ci := 3) (v := .ref (ad 4)) (C := RX3) (T := TX3) (N := 15) hx hb hts in3 hown hK hP 0 (me_get (by omega) (kk_0 cy ad _)) rfl 9 (by decide) k46 (fun _ h9 => h9) rfl dX3_bring_69 ?_
    refine lv_iload_n hx hb dX3_bring_72 rfl (lv_at hl 0 rfl) ?_
    have v73 : vp_in r2 4 := by first | exact pu_fo_in e2 c8 | exact pu_ff_in e12
    have b73 := me_inb v73
    refine me_aald (g := fun j => ad (94 + 2 * j)) hx hb hK hP 4 5 (by omega) (fun f => kk_a4 cy ad f) rfl r2.toNatClampNeg (me_ine v73) (by omega) (by decide) dX3_bring_73 ?_
    refine lv_aload_n hx hb dX3_bring_74 rfl (lv_at hl 1 rfl) ?_
    refine va_get (D := D) (ci := 3) (v := .int (s65 0 13)) (C := RX3) (T := TX3) (N := 15) hx hb hts in3 hown hK hP 0 (me_get (by omega) (kk_0 cy ad _)) rfl 13 (by decide) k59 (fun _ h9 => h9) rfl dX3_bring_75 ?_
    refine me_put (ty := .int) (ci := 1) (C := RX1) (T := TX1) (M := 5) hx hb hts in1 tyX1 tyX1_ok nmX1 hown hK hP hD hS (94 + 2 * r2.toNatClampNeg) (by omega) (kk_fr cy ad (by omega) _) rfl 4 (by decide) k203 (fun _ h9 => h9) rfl (by decide +kernel) rfl rfl (Nat.le_of_ble_eq_true rfl) (kk_fr cy ad (by omega) _) dX3_bring_78 (fun s78 H locs e78 hP hD hS => ?_)
    refine lv_iload_n hx hb dX3_bring_81 rfl (lv_at hl 0 rfl) ?_
    exact me_reti hx hb hr rfl hlocks hK hP hD hS (by simp only [k_br, e2, if_neg c8, e65, e78]) dX3_bring_82
  ·
    refine lv_aload_n hx hb dX3_bring_11 rfl (lv_at hl 1 rfl) ?_
    refine me_callr (f := k_ff σ) (w := (kk_W cy ad xr)) (σ := σ) (As := []) (rest := []) ⟨hx, hb, hml, hown, hts⟩ (fun sz => c_X3_frameToFill l D cy ad xr  σ  sz) (cwV 0 hts gX3_bring_X3_frameToFill rfl rfl rfl (by decide +kernel) ⟨Nat.le_of_ble_eq_true rfl, Nat.le_of_ble_eq_true rfl⟩) (va_recv hK hP (ci := 3) (q0 := 0) rfl (me_get (by omega) (kk_0 cy ad _))) hK hP hD hS hA rfl hl.1 rfl (Nat.le_of_ble_eq_true rfl) dX3_bring_12 ⟨Nat.zero_le _, Nat.zero_le _⟩ (fun r12 H locs e12 hP hD hS => ?_)
    refine lv_istore_n (lv' := [(2, .int r12), (0, .ref (ad 0)), (1, .int (nI g))]) hx hb dX3_bring_15 rfl hl (by decide) rfl (fun ls hl => ?_)
    refine lv_aload_n hx hb dX3_bring_16 rfl (lv_at hl 1 rfl) ?_
    refine va_get (D := D) (ci := 3) (v := .ref (ad 4)) (C := RX3) (T := TX3) (N := 15) hx hb hts in3 hown hK hP 0 (me_get (by omega) (kk_0 cy ad _)) rfl 9 (by decide) k46 (fun _ h9 => h9) rfl dX3_bring_17 ?_
    refine lv_iload_n hx hb dX3_bring_20 rfl (lv_at hl 0 rfl) ?_
    have v21 : vp_in r12 4 := pu_ff_in e12
    have b21 := me_inb v21
    refine me_aald (g := fun j => ad (94 + 2 * j)) hx hb hK hP 4 5 (by omega) (fun f => kk_a4 cy ad f) rfl r12.toNatClampNeg (me_ine v21) (by omega) (by decide) dX3_bring_21 ?_
    refine va_get (D := D) (ci := 1) (v := .int (σ (94 + 2 * r12.toNatClampNeg) 3)) (C := RX1) (T := TX1) (N := 5) hx hb hts in1 hown hK hP (94 + 2 * r12.toNatClampNeg) (me_get (by omega) (kk_fr cy ad (by omega) _)) rfl 3 (by decide) k174 (fun _ h9 => h9) rfl dX3_bring_22 ?_
    refine lv_if_eq (tgt := 42) hx hb dX3_bring_25 (by decide) (fun c25 => ?_) (fun c25 => ?_)
    ·
      refine lv_aload_n hx hb dX3_bring_42 rfl (lv_at hl 1 rfl) ?_
      refine va_get (D := D) (ci := 3) (v := .ref (ad 4)) (C := RX3) (T := TX3) (N := 15) hx hb hts in3 hown hK hP 0 (me_get (by omega) (kk_0 cy ad _)) rfl 9 (by decide) k46 (fun _ h9 => h9) rfl dX3_bring_43 ?_
      refine lv_iload_n hx hb dX3_bring_46 rfl (lv_at hl 0 rfl) ?_
      have v47 : vp_in r12 4 := pu_ff_in e12
      have b47 := me_inb v47
      refine me_aald (g := fun j => ad (94 + 2 * j)) hx hb hK hP 4 5 (by omega) (fun f => kk_a4 cy ad f) rfl r12.toNatClampNeg (me_ine v47) (by omega) (by decide) dX3_bring_47 ?_
      refine lv_iload_n hx hb dX3_bring_48 rfl (lv_at hl 2 rfl) ?_
      refine lv_aload_n hx hb dX3_bring_49 rfl (lv_at hl 1 rfl) ?_
      refine va_get (D := D) (ci := 3) (v := .ref (ad 1)) (C := RX3) (T := TX3) (N := 15) hx hb hts in3 hown hK hP 0 (me_get (by omega) (kk_0 cy ad _)) rfl 0 (by decide) k11 (fun _ h9 => h9) rfl dX3_bring_50 ?_
      refine lv_iload_n hx hb dX3_bring_53 rfl (lv_at hl 2 rfl) ?_
      refine me_aald (g := fun j => ad (6 + 4 * j)) hx hb hK hP 1 3 (by omega) (fun f => kk_a1 cy ad f) rfl g rfl (by omega) (by decide) dX3_bring_54 ?_
      refine me_callv (f := k_fill r12.toNatClampNeg (nI g) g σ) (w := (kk_W cy ad xr)) (σ := σ) (As := [.int (nI g), .ref (ad (6 + 4 * g))]) (rest := []) ⟨hx, hb, hml, hown, hts⟩ (fun sz => c_X1_fill l D cy ad xr r12.toNatClampNeg (nI g) g σ (by omega) (by omega) sz) (cwV 2 hts gX3_bring_X1_fill rfl rfl rfl (by decide +kernel) ⟨Nat.le_of_ble_eq_true rfl, Nat.le_of_ble_eq_true rfl⟩) (va_recv hK hP (ci := 1) (q0 := (94 + 2 * r12.toNatClampNeg)) rfl (me_get (by omega) (kk_fr cy ad (by omega) _))) hK hP hD hS hA rfl hl.1 rfl (Nat.le_of_ble_eq_true rfl) dX3_bring_55 ⟨Nat.zero_le _, Nat.zero_le _⟩ (fun s55 H locs e55 hP hD hS => ?_)
      refine lv_aload_n hx hb dX3_bring_58 rfl (lv_at hl 1 rfl) ?_
      refine lv_dup hx hb dX3_bring_59 rfl ?_
      refine va_get (D := D) (ci := 3) (v := .int (s55 0 13)) (C := RX3) (T := TX3) (N := 15) hx hb hts in3 hown hK hP 0 (me_get (by omega) (kk_0 cy ad _)) rfl 13 (by decide) k59 (fun _ h9 => h9) rfl dX3_bring_60 ?_
      refine lv_iconst (v := nI 1) hx hb dX3_bring_63 (by decide) ?_
      refine lv_iadd hx hb dX3_bring_64 ?_
      refine me_put (ty := .int) (ci := 3) (C := RX3) (T := TX3) (M := 15) hx hb hts in3 tyX3 tyX3_ok nmX3 hown hK hP hD hS 0 (by omega) (kk_0 cy ad _) rfl 13 (by decide) k59 (fun _ h9 => h9) rfl (by decide +kernel) rfl rfl (Nat.le_of_ble_eq_true rfl) (kk_0 cy ad _) dX3_bring_65 (fun s65 H locs e65 hP hD hS => ?_)
      refine lv_aload_n hx hb dX3_bring_68 rfl (lv_at hl 1 rfl) ?_
      refine va_get (D := D) (ci := 3) (v := .ref (ad 4)) (C := RX3) (T := TX3) (N := 15) hx hb hts in3 hown hK hP 0 (me_get (by omega) (kk_0 cy ad _)) rfl 9 (by decide) k46 (fun _ h9 => h9) rfl dX3_bring_69 ?_
      refine lv_iload_n hx hb dX3_bring_72 rfl (lv_at hl 0 rfl) ?_
      have v73 : vp_in r12 4 := by first | exact pu_fo_in e2 c8 | exact pu_ff_in e12
      have b73 := me_inb v73
      refine me_aald (g := fun j => ad (94 + 2 * j)) hx hb hK hP 4 5 (by omega) (fun f => kk_a4 cy ad f) rfl r12.toNatClampNeg (me_ine v73) (by omega) (by decide) dX3_bring_73 ?_
      refine lv_aload_n hx hb dX3_bring_74 rfl (lv_at hl 1 rfl) ?_
      refine va_get (D := D) (ci := 3) (v := .int (s65 0 13)) (C := RX3) (T := TX3) (N := 15) hx hb hts in3 hown hK hP 0 (me_get (by omega) (kk_0 cy ad _)) rfl 13 (by decide) k59 (fun _ h9 => h9) rfl dX3_bring_75 ?_
      refine me_put (ty := .int) (ci := 1) (C := RX1) (T := TX1) (M := 5) hx hb hts in1 tyX1 tyX1_ok nmX1 hown hK hP hD hS (94 + 2 * r12.toNatClampNeg) (by omega) (kk_fr cy ad (by omega) _) rfl 4 (by decide) k203 (fun _ h9 => h9) rfl (by decide +kernel) rfl rfl (Nat.le_of_ble_eq_true rfl) (kk_fr cy ad (by omega) _) dX3_bring_78 (fun s78 H locs e78 hP hD hS => ?_)
      refine lv_iload_n hx hb dX3_bring_81 rfl (lv_at hl 0 rfl) ?_
      exact me_reti hx hb hr rfl hlocks hK hP hD hS (by simp only [k_br, e2, if_pos c8, e12, if_pos c25, e55, e65, e78]) dX3_bring_82
    ·
      refine lv_aload_n hx hb dX3_bring_28 rfl (lv_at hl 1 rfl) ?_
      refine lv_iload_n hx hb dX3_bring_29 rfl (lv_at hl 0 rfl) ?_
      refine lv_iload_n hx hb dX3_bring_30 rfl (lv_at hl 0 rfl) ?_
      have v31_a : vp_in r12 4 := pu_ff_in e12
      have b31_a := me_inb v31_a
      have v31_b : vp_in r12 4 := pu_ff_in e12
      have b31_b := me_inb v31_b
      have q31_a : r12 = nI r12.toNatClampNeg := me_ine v31_a
      have q31_b : r12 = nI r12.toNatClampNeg := me_ine v31_b
      refine me_calli (f := k_cd r12.toNatClampNeg r12.toNatClampNeg σ) (w := (kk_W cy ad xr)) (σ := σ) (As := [.int r12, .int r12]) (rest := []) ⟨hx, hb, hml, hown, hts⟩ (fun sz => me_av (av := [.ref (ad 0), .int (nI r12.toNatClampNeg), .int (nI r12.toNatClampNeg)]) (by simp only [← q31_a, ← q31_b]) (c_X3_cleanDirty l D cy ad xr r12.toNatClampNeg r12.toNatClampNeg σ (by omega) (hI) sz)) (cwV 2 hts gX3_bring_X3_cleanDirty rfl rfl rfl (by decide +kernel) ⟨Nat.le_of_ble_eq_true rfl, Nat.le_of_ble_eq_true rfl⟩) (va_recv hK hP (ci := 3) (q0 := 0) rfl (me_get (by omega) (kk_0 cy ad _))) hK hP hD hS hA rfl hl.1 rfl (Nat.le_of_ble_eq_true rfl) dX3_bring_31 ⟨Nat.zero_le _, Nat.zero_le _⟩ (fun r31 s31 H locs e31 hP hD hS => ?_)
      refine lv_bipush (v := (-3)) hx hb dX3_bring_34 (by decide) ?_
      refine lv_icmp_ne (tgt := 42) hx hb dX3_bring_36 (by decide) (fun c36 => ?_) (fun c36 => ?_)
      ·
        refine lv_aload_n hx hb dX3_bring_42 rfl (lv_at hl 1 rfl) ?_
        refine va_get (D := D) (ci := 3) (v := .ref (ad 4)) (C := RX3) (T := TX3) (N := 15) hx hb hts in3 hown hK hP 0 (me_get (by omega) (kk_0 cy ad _)) rfl 9 (by decide) k46 (fun _ h9 => h9) rfl dX3_bring_43 ?_
        refine lv_iload_n hx hb dX3_bring_46 rfl (lv_at hl 0 rfl) ?_
        have v47 : vp_in r12 4 := pu_ff_in e12
        have b47 := me_inb v47
        refine me_aald (g := fun j => ad (94 + 2 * j)) hx hb hK hP 4 5 (by omega) (fun f => kk_a4 cy ad f) rfl r12.toNatClampNeg (me_ine v47) (by omega) (by decide) dX3_bring_47 ?_
        refine lv_iload_n hx hb dX3_bring_48 rfl (lv_at hl 2 rfl) ?_
        refine lv_aload_n hx hb dX3_bring_49 rfl (lv_at hl 1 rfl) ?_
        refine va_get (D := D) (ci := 3) (v := .ref (ad 1)) (C := RX3) (T := TX3) (N := 15) hx hb hts in3 hown hK hP 0 (me_get (by omega) (kk_0 cy ad _)) rfl 0 (by decide) k11 (fun _ h9 => h9) rfl dX3_bring_50 ?_
        refine lv_iload_n hx hb dX3_bring_53 rfl (lv_at hl 2 rfl) ?_
        refine me_aald (g := fun j => ad (6 + 4 * j)) hx hb hK hP 1 3 (by omega) (fun f => kk_a1 cy ad f) rfl g rfl (by omega) (by decide) dX3_bring_54 ?_
        refine me_callv (f := k_fill r12.toNatClampNeg (nI g) g s31) (w := (kk_W cy ad xr)) (σ := s31) (As := [.int (nI g), .ref (ad (6 + 4 * g))]) (rest := []) ⟨hx, hb, hml, hown, hts⟩ (fun sz => c_X1_fill l D cy ad xr r12.toNatClampNeg (nI g) g s31 (by omega) (by omega) sz) (cwV 2 hts gX3_bring_X1_fill rfl rfl rfl (by decide +kernel) ⟨Nat.le_of_ble_eq_true rfl, Nat.le_of_ble_eq_true rfl⟩) (va_recv hK hP (ci := 1) (q0 := (94 + 2 * r12.toNatClampNeg)) rfl (me_get (by omega) (kk_fr cy ad (by omega) _))) hK hP hD hS hA rfl hl.1 rfl (Nat.le_of_ble_eq_true rfl) dX3_bring_55 ⟨Nat.zero_le _, Nat.zero_le _⟩ (fun s55 H locs e55 hP hD hS => ?_)
        refine lv_aload_n hx hb dX3_bring_58 rfl (lv_at hl 1 rfl) ?_
        refine lv_dup hx hb dX3_bring_59 rfl ?_
        refine va_get (D := D) (ci := 3) (v := .int (s55 0 13)) (C := RX3) (T := TX3) (N := 15) hx hb hts in3 hown hK hP 0 (me_get (by omega) (kk_0 cy ad _)) rfl 13 (by decide) k59 (fun _ h9 => h9) rfl dX3_bring_60 ?_
        refine lv_iconst (v := nI 1) hx hb dX3_bring_63 (by decide) ?_
        refine lv_iadd hx hb dX3_bring_64 ?_
        refine me_put (ty := .int) (ci := 3) (C := RX3) (T := TX3) (M := 15) hx hb hts in3 tyX3 tyX3_ok nmX3 hown hK hP hD hS 0 (by omega) (kk_0 cy ad _) rfl 13 (by decide) k59 (fun _ h9 => h9) rfl (by decide +kernel) rfl rfl (Nat.le_of_ble_eq_true rfl) (kk_0 cy ad _) dX3_bring_65 (fun s65 H locs e65 hP hD hS => ?_)
        refine lv_aload_n hx hb dX3_bring_68 rfl (lv_at hl 1 rfl) ?_
        refine va_get (D := D) (ci := 3) (v := .ref (ad 4)) (C := RX3) (T := TX3) (N := 15) hx hb hts in3 hown hK hP 0 (me_get (by omega) (kk_0 cy ad _)) rfl 9 (by decide) k46 (fun _ h9 => h9) rfl dX3_bring_69 ?_
        refine lv_iload_n hx hb dX3_bring_72 rfl (lv_at hl 0 rfl) ?_
        have v73 : vp_in r12 4 := by first | exact pu_fo_in e2 c8 | exact pu_ff_in e12
        have b73 := me_inb v73
        refine me_aald (g := fun j => ad (94 + 2 * j)) hx hb hK hP 4 5 (by omega) (fun f => kk_a4 cy ad f) rfl r12.toNatClampNeg (me_ine v73) (by omega) (by decide) dX3_bring_73 ?_
        refine lv_aload_n hx hb dX3_bring_74 rfl (lv_at hl 1 rfl) ?_
        refine va_get (D := D) (ci := 3) (v := .int (s65 0 13)) (C := RX3) (T := TX3) (N := 15) hx hb hts in3 hown hK hP 0 (me_get (by omega) (kk_0 cy ad _)) rfl 13 (by decide) k59 (fun _ h9 => h9) rfl dX3_bring_75 ?_
        refine me_put (ty := .int) (ci := 1) (C := RX1) (T := TX1) (M := 5) hx hb hts in1 tyX1 tyX1_ok nmX1 hown hK hP hD hS (94 + 2 * r12.toNatClampNeg) (by omega) (kk_fr cy ad (by omega) _) rfl 4 (by decide) k203 (fun _ h9 => h9) rfl (by decide +kernel) rfl rfl (Nat.le_of_ble_eq_true rfl) (kk_fr cy ad (by omega) _) dX3_bring_78 (fun s78 H locs e78 hP hD hS => ?_)
        refine lv_iload_n hx hb dX3_bring_81 rfl (lv_at hl 0 rfl) ?_
        exact me_reti hx hb hr rfl hlocks hK hP hD hS (by simp only [k_br, e2, if_pos c8, e12, if_neg c25, e31, if_neg c36, e55, e65, e78]) dX3_bring_82
      ·
        refine lv_bipush (v := (-3)) hx hb dX3_bring_39 (by decide) ?_
        exact me_reti hx hb hr rfl hlocks hK hP hD hS (by simp only [k_br, e2, if_pos c8, e12, if_neg c25, e31, if_pos c36]) dX3_bring_41
