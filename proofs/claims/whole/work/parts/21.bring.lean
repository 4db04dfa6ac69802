def k_br (g : Nat) (σ : me_M) : Int32 × me_M := let r2 := k_fo (nI g) σ; if r2 = (-1) then (let r11 := k_ff σ; if (σ (94 + 2 * r11.toNatClampNeg) 3) = 0 then (let s50 := k_fill r11.toNatClampNeg (nI g) g σ; let s60 := me_st s50 0 13 ((s50 0 13) + (nI 1)); let s68 := me_st s60 (94 + 2 * r11.toNatClampNeg) 4 (s60 0 13); (r11, s68)) else (let q32 := k_cd r11.toNatClampNeg r11.toNatClampNeg σ; let r32 := q32.1; let s32 := q32.2; if r32 = (-3) then (((-3), s32)) else (let s50 := k_fill r11.toNatClampNeg (nI g) g s32; let s60 := me_st s50 0 13 ((s50 0 13) + (nI 1)); let s68 := me_st s60 (94 + 2 * r11.toNatClampNeg) 4 (s60 0 13); (r11, s68)))) else (let s60 := me_st σ 0 13 ((σ 0 13) + (nI 1)); let s68 := me_st s60 (94 + 2 * r2.toNatClampNeg) 4 (s60 0 13); (r2, s68))
set_option maxRecDepth 100000 in
set_option maxHeartbeats 4000000 in
theorem c_X3_bring (l : Launch) (D : va_G) (cy : Nat → ClassId) (ad : Nat → Nat) (xr : va_W) (g : Nat) (σ : me_M) (hg : g < 12) (hI : k_I σ) (sz : Nat) : me_Cf l yX3_bring wsX3_bring ({ frames := 4, cells := 0, slots := 0, locals := 100 }) D (me_T cy) (kk_W cy ad xr) [.ref (ad 0), .int (nI g)] sz σ ad (-3) (k_br g σ) := by
  refine Met.ofW (cc := cX3_bring) (maxL := 4) (ret := (some (.object "TwinWrites$Frame"))) (by decide) rfl ?_
  intro p e st m args below meth c s₁ B hml hv
  obtain ⟨rfl, hsz, hP, hK, hD0⟩ := hv
  have hx := B.exec
  have hb := B.bytes
  have hr := B.returns
  have hts := atoms_spec (ws := wsX3_bring) B.pre
  have hown : st.vm.findClass RX3 = some m.cls := findClass_of_methodNamed B.named
  have hlocks := B.notSynchronized
  have in1 : ∀ w ∈ u_ws RX1 TX1 5, w ∈ wsX3_bring := by decide +kernel
  have in3 : ∀ w ∈ u_ws RX3 TX3 15, w ∈ wsX3_bring := by decide +kernel
  have k11 := hts (.fieldLink RX3 11 "TwinWrites" "homes" "[LTwinWrites$Place;") (by decide +kernel)
  have k46 := hts (.fieldLink RX3 46 "TwinWrites" "frames" "[LTwinWrites$Frame;") (by decide +kernel)
  have k59 := hts (.fieldLink RX3 59 "TwinWrites" "askings" "I") (by decide +kernel)
  have k175 := hts (.fieldLink RX3 175 "TwinWrites$Frame" "dirty" "Z") (by decide +kernel)
  have k204 := hts (.fieldLink RX3 204 "TwinWrites$Frame" "asked" "I") (by decide +kernel)
  subst hsz
  have hD := hD0.self (sz := st.heap.size)
  have hA : ∀ q : Nat, st.heap.size ≤ q → va_A ((kk_W cy ad xr) σ) st.heap.size q := fun q h => Or.inr h
  have hS : va_S (va_A ((kk_W cy ad xr) σ) st.heap.size) st.heap st.heap [] := va_S.rf
  generalize va_A ((kk_W cy ad xr) σ) st.heap.size = A at hD hA hS ⊢
  have hl := lv_entry ([.ref (ad 0), .int (nI g)]) (n := 4) (Nat.le_of_ble_eq_true rfl)
  rw [lg_entry_eq]
  generalize (lg_sl ([.ref (ad 0), .int (nI g)]) ++ List.replicate (4 - (lg_sl ([.ref (ad 0), .int (nI g)])).length) Slot.unset).toArray = ls at hl ⊢
  have hl : lv_has ls 4 [(0, .ref (ad 0)), (1, .int (nI g))] := hl
  refine lv_aload_n hx hb dX3_bring_0 rfl (lv_at hl 0 rfl) ?_
  refine lv_iload_n hx hb dX3_bring_1 rfl (lv_at hl 1 rfl) ?_
  refine me_callg (z := (-1)) (f := k_fo (nI g) σ) (w := (kk_W cy ad xr)) (σ := σ) (ad := ad) (As := [.int (nI g)]) (rest := []) ⟨hx, hb, hml, hown, hts⟩ (fun sz => c_X3_frameOf l D cy ad xr (nI g) σ  sz) (cwV 1 hts gX3_bring_X3_frameOf rfl rfl rfl (by decide +kernel) ⟨Nat.le_of_ble_eq_true rfl, Nat.le_of_ble_eq_true rfl⟩) (va_recv hK hP (ci := 3) (q0 := 0) rfl (me_get (by omega) (kk_0 cy ad _))) hK hP hD hS hA rfl hl.1 rfl (Nat.le_of_ble_eq_true rfl) dX3_bring_2 ⟨Nat.zero_le _, Nat.zero_le _⟩ (fun r2 H locs e2 c2 hP hD hS => ?_) (fun r2 H locs e2 c2 hP hD hS => ?_)
  ·
    refine lv_astore_nN (lv' := [(2, .null), (0, .ref (ad 0)), (1, .int (nI g))]) hx hb dX3_bring_5 rfl hl (by decide) rfl (fun ls hl => ?_)
    refine lv_aload_nN hx hb dX3_bring_6 rfl (lv_at hl 0 rfl) ?_
    refine lv_ifnonnullN hx hb dX3_bring_7 ?_
    refine lv_aload_n hx hb dX3_bring_10 rfl (lv_at hl 1 rfl) ?_
    refine me_callr (f := k_ff σ) (w := (kk_W cy ad xr)) (σ := σ) (As := []) (rest := []) ⟨hx, hb, hml, hown, hts⟩ (fun sz => c_X3_frameToFill l D cy ad xr  σ  sz) (cwV 0 hts gX3_bring_X3_frameToFill rfl rfl rfl (by decide +kernel) ⟨Nat.le_of_ble_eq_true rfl, Nat.le_of_ble_eq_true rfl⟩) (va_recv hK hP (ci := 3) (q0 := 0) rfl (me_get (by omega) (kk_0 cy ad _))) hK hP hD hS hA rfl hl.1 rfl (Nat.le_of_ble_eq_true rfl) dX3_bring_11 ⟨Nat.zero_le _, Nat.zero_le _⟩ (fun r11 H locs e11 hP hD hS => ?_)
    refine lv_istore_n (lv' := [(3, .int r11), (2, .null), (0, .ref (ad 0)), (1, .int (nI g))]) hx hb dX3_bring_14 rfl hl (by decide) rfl (fun ls hl => ?_)
    refine lv_aload_n hx hb dX3_bring_15 rfl (lv_at hl 2 rfl) ?_
    refine va_get (D := D) (ci := 3) (v := .ref (ad 4)) (C := RX3) (T := TX3) (N := 15) hx hb hts in3 hown hK hP 0 (me_get (by omega) (kk_0 cy ad _)) rfl 9 (by decide) k46 (fun _ h9 => h9) rfl dX3_bring_16 ?_
    refine lv_iload_n hx hb dX3_bring_19 rfl (lv_at hl 0 rfl) ?_
    have v20 : vp_in r11 4 := pu_ff_in e11
    have b20 := me_inb v20
    refine me_aald (g := fun j => ad (94 + 2 * j)) hx hb hK hP 4 5 (by omega) (fun f => kk_a4 cy ad f) rfl r11.toNatClampNeg (me_ine v20) (by omega) (by decide) dX3_bring_20 ?_
    refine lv_astore_n (lv' := [(2, .ref (ad (94 + 2 * r11.toNatClampNeg))), (3, .int r11), (0, .ref (ad 0)), (1, .int (nI g))]) hx hb dX3_bring_21 rfl hl (by decide) rfl (fun ls hl => ?_)
    refine lv_aload_n hx hb dX3_bring_22 rfl (lv_at hl 0 rfl) ?_
    refine va_get (D := D) (ci := 1) (v := .int (σ (94 + 2 * r11.toNatClampNeg) 3)) (C := RX1) (T := TX1) (N := 5) hx hb hts in1 hown hK hP (94 + 2 * r11.toNatClampNeg) (me_get (by omega) (kk_fr cy ad (by omega) _)) rfl 3 (by decide) k175 (fun _ h9 => h9) rfl dX3_bring_23 ?_
    refine lv_if_eq (tgt := 42) hx hb dX3_bring_26 (by decide) (fun c26 => ?_) (fun c26 => ?_)
    ·
      refine lv_aload_n hx hb dX3_bring_42 rfl (lv_at hl 0 rfl) ?_
      refine lv_iload_n hx hb dX3_bring_43 rfl (lv_at hl 3 rfl) ?_
      refine lv_aload_n hx hb dX3_bring_44 rfl (lv_at hl 2 rfl) ?_
      refine va_get (D := D) (ci := 3) (v := .ref (ad 1)) (C := RX3) (T := TX3) (N := 15) hx hb hts in3 hown hK hP 0 (me_get (by omega) (kk_0 cy ad _)) rfl 0 (by decide) k11 (fun _ h9 => h9) rfl dX3_bring_45 ?_
      refine lv_iload_n hx hb dX3_bring_48 rfl (lv_at hl 3 rfl) ?_
      refine me_aald (g := fun j => ad (6 + 4 * j)) hx hb hK hP 1 3 (by omega) (fun f => kk_a1 cy ad f) rfl g rfl (by omega) (by decide) dX3_bring_49 ?_
      refine me_callv (f := k_fill r11.toNatClampNeg (nI g) g σ) (w := (kk_W cy ad xr)) (σ := σ) (As := [.int (nI g), .ref (ad (6 + 4 * g))]) (rest := []) ⟨hx, hb, hml, hown, hts⟩ (fun sz => c_X1_fill l D cy ad xr r11.toNatClampNeg (nI g) g σ (by omega) (by omega) sz) (cwV 2 hts gX3_bring_X1_fill rfl rfl rfl (by decide +kernel) ⟨Nat.le_of_ble_eq_true rfl, Nat.le_of_ble_eq_true rfl⟩) (va_recv hK hP (ci := 1) (q0 := (94 + 2 * r11.toNatClampNeg)) rfl (me_get (by omega) (kk_fr cy ad (by omega) _))) hK hP hD hS hA rfl hl.1 rfl (Nat.le_of_ble_eq_true rfl) dX3_bring_50 ⟨Nat.zero_le _, Nat.zero_le _⟩ (fun s50 H locs e50 hP hD hS => ?_)
      refine lv_aload_n hx hb dX3_bring_53 rfl (lv_at hl 2 rfl) ?_
      refine lv_dup hx hb dX3_bring_54 rfl ?_
      refine va_get (D := D) (ci := 3) (v := .int (s50 0 13)) (C := RX3) (T := TX3) (N := 15) hx hb hts in3 hown hK hP 0 (me_get (by omega) (kk_0 cy ad _)) rfl 13 (by decide) k59 (fun _ h9 => h9) rfl dX3_bring_55 ?_
      refine lv_iconst (v := nI 1) hx hb dX3_bring_58 (by decide) ?_
      refine lv_iadd hx hb dX3_bring_59 ?_
      refine me_put (ty := .int) (ci := 3) (C := RX3) (T := TX3) (M := 15) hx hb hts in3 tyX3 tyX3_ok nmX3 hown hK hP hD hS 0 (by omega) (kk_0 cy ad _) rfl 13 (by decide) k59 (fun _ h9 => h9) rfl (by decide +kernel) rfl rfl (Nat.le_of_ble_eq_true rfl) (kk_0 cy ad _) dX3_bring_60 (fun s60 H locs e60 hP hD hS => ?_)
      refine lv_aload_n hx hb dX3_bring_63 rfl (lv_at hl 0 rfl) ?_
      refine lv_aload_n hx hb dX3_bring_64 rfl (lv_at hl 2 rfl) ?_
      refine va_get (D := D) (ci := 3) (v := .int (s60 0 13)) (C := RX3) (T := TX3) (N := 15) hx hb hts in3 hown hK hP 0 (me_get (by omega) (kk_0 cy ad _)) rfl 13 (by decide) k59 (fun _ h9 => h9) rfl dX3_bring_65 ?_
      refine me_put (ty := .int) (ci := 1) (C := RX1) (T := TX1) (M := 5) hx hb hts in1 tyX1 tyX1_ok nmX1 hown hK hP hD hS (94 + 2 * r11.toNatClampNeg) (by omega) (kk_fr cy ad (by omega) _) rfl 4 (by decide) k204 (fun _ h9 => h9) rfl (by decide +kernel) rfl rfl (Nat.le_of_ble_eq_true rfl) (kk_fr cy ad (by omega) _) dX3_bring_68 (fun s68 H locs e68 hP hD hS => ?_)
      refine lv_aload_n hx hb dX3_bring_71 rfl (lv_at hl 0 rfl) ?_
      exact me_retk (x := r11) hx hb hr hlocks hK hP hD hS (by first | exact pu_fo_in e2 c2 | exact pu_ff_in e11) (rfl) (by decide) (by first | (simp only [k_br, e2, if_pos c2, e11, if_pos c26, e50, e60, e68]; done) | contradiction) dX3_bring_72
    ·
      refine lv_aload_n hx hb dX3_bring_29 rfl (lv_at hl 2 rfl) ?_
      refine lv_iload_n hx hb dX3_bring_30 rfl (lv_at hl 1 rfl) ?_
      refine lv_iload_n hx hb dX3_bring_31 rfl (lv_at hl 1 rfl) ?_
      have v32_a : vp_in r11 4 := pu_ff_in e11
      have b32_a := me_inb v32_a
      have v32_b : vp_in r11 4 := pu_ff_in e11
      have b32_b := me_inb v32_b
      have q32_a : r11 = nI r11.toNatClampNeg := me_ine v32_a
      have q32_b : r11 = nI r11.toNatClampNeg := me_ine v32_b
      refine me_calli (f := k_cd r11.toNatClampNeg r11.toNatClampNeg σ) (w := (kk_W cy ad xr)) (σ := σ) (As := [.int r11, .int r11]) (rest := []) ⟨hx, hb, hml, hown, hts⟩ (fun sz => me_av (av := [.ref (ad 0), .int (nI r11.toNatClampNeg), .int (nI r11.toNatClampNeg)]) (by simp only [← q32_a, ← q32_b]) (c_X3_cleanDirty l D cy ad xr r11.toNatClampNeg r11.toNatClampNeg σ (by omega) (hI) sz)) (cwV 2 hts gX3_bring_X3_cleanDirty rfl rfl rfl (by decide +kernel) ⟨Nat.le_of_ble_eq_true rfl, Nat.le_of_ble_eq_true rfl⟩) (va_recv hK hP (ci := 3) (q0 := 0) rfl (me_get (by omega) (kk_0 cy ad _))) hK hP hD hS hA rfl hl.1 rfl (Nat.le_of_ble_eq_true rfl) dX3_bring_32 ⟨Nat.zero_le _, Nat.zero_le _⟩ (fun r32 s32 H locs e32 hP hD hS => ?_)
      refine lv_bipush (v := (-3)) hx hb dX3_bring_35 (by decide) ?_
      refine lv_icmp_ne (tgt := 42) hx hb dX3_bring_37 (by decide) (fun c37 => ?_) (fun c37 => ?_)
      ·
        refine lv_aload_n hx hb dX3_bring_42 rfl (lv_at hl 0 rfl) ?_
        refine lv_iload_n hx hb dX3_bring_43 rfl (lv_at hl 3 rfl) ?_
        refine lv_aload_n hx hb dX3_bring_44 rfl (lv_at hl 2 rfl) ?_
        refine va_get (D := D) (ci := 3) (v := .ref (ad 1)) (C := RX3) (T := TX3) (N := 15) hx hb hts in3 hown hK hP 0 (me_get (by omega) (kk_0 cy ad _)) rfl 0 (by decide) k11 (fun _ h9 => h9) rfl dX3_bring_45 ?_
        refine lv_iload_n hx hb dX3_bring_48 rfl (lv_at hl 3 rfl) ?_
        refine me_aald (g := fun j => ad (6 + 4 * j)) hx hb hK hP 1 3 (by omega) (fun f => kk_a1 cy ad f) rfl g rfl (by omega) (by decide) dX3_bring_49 ?_
        refine me_callv (f := k_fill r11.toNatClampNeg (nI g) g s32) (w := (kk_W cy ad xr)) (σ := s32) (As := [.int (nI g), .ref (ad (6 + 4 * g))]) (rest := []) ⟨hx, hb, hml, hown, hts⟩ (fun sz => c_X1_fill l D cy ad xr r11.toNatClampNeg (nI g) g s32 (by omega) (by omega) sz) (cwV 2 hts gX3_bring_X1_fill rfl rfl rfl (by decide +kernel) ⟨Nat.le_of_ble_eq_true rfl, Nat.le_of_ble_eq_true rfl⟩) (va_recv hK hP (ci := 1) (q0 := (94 + 2 * r11.toNatClampNeg)) rfl (me_get (by omega) (kk_fr cy ad (by omega) _))) hK hP hD hS hA rfl hl.1 rfl (Nat.le_of_ble_eq_true rfl) dX3_bring_50 ⟨Nat.zero_le _, Nat.zero_le _⟩ (fun s50 H locs e50 hP hD hS => ?_)
        refine lv_aload_n hx hb dX3_bring_53 rfl (lv_at hl 2 rfl) ?_
        refine lv_dup hx hb dX3_bring_54 rfl ?_
        refine va_get (D := D) (ci := 3) (v := .int (s50 0 13)) (C := RX3) (T := TX3) (N := 15) hx hb hts in3 hown hK hP 0 (me_get (by omega) (kk_0 cy ad _)) rfl 13 (by decide) k59 (fun _ h9 => h9) rfl dX3_bring_55 ?_
        refine lv_iconst (v := nI 1) hx hb dX3_bring_58 (by decide) ?_
        refine lv_iadd hx hb dX3_bring_59 ?_
        refine me_put (ty := .int) (ci := 3) (C := RX3) (T := TX3) (M := 15) hx hb hts in3 tyX3 tyX3_ok nmX3 hown hK hP hD hS 0 (by omega) (kk_0 cy ad _) rfl 13 (by decide) k59 (fun _ h9 => h9) rfl (by decide +kernel) rfl rfl (Nat.le_of_ble_eq_true rfl) (kk_0 cy ad _) dX3_bring_60 (fun s60 H locs e60 hP hD hS => ?_)
        refine lv_aload_n hx hb dX3_bring_63 rfl (lv_at hl 0 rfl) ?_
        refine lv_aload_n hx hb dX3_bring_64 rfl (lv_at hl 2 rfl) ?_
        refine va_get (D := D) (ci := 3) (v := .int (s60 0 13)) (C := RX3) (T := TX3) (N := 15) hx hb hts in3 hown hK hP 0 (me_get (by omega) (kk_0 cy ad _)) rfl 13 (by decide) k59 (fun _ h9 => h9) rfl dX3_bring_65 ?_
        refine me_put (ty := .int) (ci := 1) (C := RX1) (T := TX1) (M := 5) hx hb hts in1 tyX1 tyX1_ok nmX1 hown hK hP hD hS (94 + 2 * r11.toNatClampNeg) (by omega) (kk_fr cy ad (by omega) _) rfl 4 (by decide) k204 (fun _ h9 => h9) rfl (by decide +kernel) rfl rfl (Nat.le_of_ble_eq_true rfl) (kk_fr cy ad (by omega) _) dX3_bring_68 (fun s68 H locs e68 hP hD hS => ?_)
        refine lv_aload_n hx hb dX3_bring_71 rfl (lv_at hl 0 rfl) ?_
        exact me_retk (x := r11) hx hb hr hlocks hK hP hD hS (by first | exact pu_fo_in e2 c2 | exact pu_ff_in e11) (rfl) (by decide) (by first | (simp only [k_br, e2, if_pos c2, e11, if_neg c26, e32, if_neg c37, e50, e60, e68]; done) | contradiction) dX3_bring_72
      ·
        refine lv_null hx hb dX3_bring_40 ?_
        exact me_retn hx hb hr hlocks hK hP hD hS (by first | (simp only [k_br, e2, if_pos c2, e11, if_neg c26, e32, if_pos c37]; done) | contradiction) dX3_bring_41
  ·
    have b2 := me_inb (pu_fo_in e2 c2)
    refine lv_astore_n (lv' := [(2, .ref (ad (94 + 2 * r2.toNatClampNeg))), (0, .ref (ad 0)), (1, .int (nI g))]) hx hb dX3_bring_5 rfl hl (by decide) rfl (fun ls hl => ?_)
    refine lv_aload_n hx hb dX3_bring_6 rfl (lv_at hl 0 rfl) ?_
    refine lv_ifnonnull (tgt := 53) hx hb dX3_bring_7 (by decide) ?_
    refine lv_aload_n hx hb dX3_bring_53 rfl (lv_at hl 1 rfl) ?_
    refine lv_dup hx hb dX3_bring_54 rfl ?_
    refine va_get (D := D) (ci := 3) (v := .int (σ 0 13)) (C := RX3) (T := TX3) (N := 15) hx hb hts in3 hown hK hP 0 (me_get (by omega) (kk_0 cy ad _)) rfl 13 (by decide) k59 (fun _ h9 => h9) rfl dX3_bring_55 ?_
    refine lv_iconst (v := nI 1) hx hb dX3_bring_58 (by decide) ?_
    refine lv_iadd hx hb dX3_bring_59 ?_
    refine me_put (ty := .int) (ci := 3) (C := RX3) (T := TX3) (M := 15) hx hb hts in3 tyX3 tyX3_ok nmX3 hown hK hP hD hS 0 (by omega) (kk_0 cy ad _) rfl 13 (by decide) k59 (fun _ h9 => h9) rfl (by decide +kernel) rfl rfl (Nat.le_of_ble_eq_true rfl) (kk_0 cy ad _) dX3_bring_60 (fun s60 H locs e60 hP hD hS => ?_)
    refine lv_aload_n hx hb dX3_bring_63 rfl (lv_at hl 0 rfl) ?_
    refine lv_aload_n hx hb dX3_bring_64 rfl (lv_at hl 1 rfl) ?_
    refine va_get (D := D) (ci := 3) (v := .int (s60 0 13)) (C := RX3) (T := TX3) (N := 15) hx hb hts in3 hown hK hP 0 (me_get (by omega) (kk_0 cy ad _)) rfl 13 (by decide) k59 (fun _ h9 => h9) rfl dX3_bring_65 ?_
    refine me_put (ty := .int) (ci := 1) (C := RX1) (T := TX1) (M := 5) hx hb hts in1 tyX1 tyX1_ok nmX1 hown hK hP hD hS (94 + 2 * r2.toNatClampNeg) (by omega) (kk_fr cy ad (by omega) _) rfl 4 (by decide) k204 (fun _ h9 => h9) rfl (by decide +kernel) rfl rfl (Nat.le_of_ble_eq_true rfl) (kk_fr cy ad (by omega) _) dX3_bring_68 (fun s68 H locs e68 hP hD hS => ?_)
    refine lv_aload_n hx hb dX3_bring_71 rfl (lv_at hl 0 rfl) ?_
    exact me_retk (x := r2) hx hb hr hlocks hK hP hD hS (by first | exact pu_fo_in e2 c2 | exact pu_ff_in e11) (rfl) (by decide) (by first | (simp only [k_br, e2, if_neg c2, e60, e68]; done) | contradiction) dX3_bring_72
