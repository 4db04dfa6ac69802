def m_sync  (σ : me_M) : Int32 × me_M := let s2 := me_st σ 0 0 (nI 0); let q11 := m_ref (s2 0 25) (nI 1) s2; let r11 := q11.1; let s11 := q11.2; if r11 = 0 then (let q25 := m_lw s11; let r25 := q25.1; let s25 := q25.2; if r25 = 0 then (((-3), s25)) else ((s11 0 18, s25))) else ((nI 0, s11))
set_option maxRecDepth 100000 in
set_option maxHeartbeats 4000000 in
theorem c_X4_sync (l : Launch) (D : va_G) (cy : Nat → ClassId) (ad : Nat → Nat) (xr : va_W)  (σ : me_M) (hI : m_I σ) (sz : Nat) : me_Ci l yX4_sync wsX4_sync ({ frames := 3, cells := 0, slots := 0, locals := 63 }) D (me_T cy) (mm_W cy ad xr) [.ref (ad 0)] sz σ (m_sync  σ) := by
  refine Met.ofW (cc := cX4_sync) (maxL := 2) (ret := (some .int)) (by decide) rfl ?_
  intro p e st m args below meth c s₁ B hml hv
  obtain ⟨rfl, hsz, hP, hK, hD0⟩ := hv
  have hx := B.exec
  have hb := B.bytes
  have hr := B.returns
  have hts := atoms_spec (ws := wsX4_sync) B.pre
  have hown : st.vm.findClass RX4 = some m.cls := findClass_of_methodNamed B.named
  have hlocks := B.notSynchronized
  have in4 : ∀ w ∈ u_ws RX4 TX4 29, w ∈ wsX4_sync := by decide +kernel
  have k75 := hts (.fieldLink RX4 75 "TwinWritesModel" "thrown" "I") (by decide +kernel)
  have k78 := hts (.fieldLink RX4 78 "TwinWritesModel" "isDown" "Z") (by decide +kernel)
  have k82 := hts (.fieldLink RX4 82 "TwinWritesModel" "waiting" "I") (by decide +kernel)
  subst hsz
  have hD := hD0.self (sz := st.heap.size)
  have hA : ∀ q : Nat, st.heap.size ≤ q → va_A ((mm_W cy ad xr) σ) st.heap.size q := fun q h => Or.inr h
  have hS : va_S (va_A ((mm_W cy ad xr) σ) st.heap.size) st.heap st.heap [] := va_S.rf
  generalize va_A ((mm_W cy ad xr) σ) st.heap.size = A at hD hA hS ⊢
  have hl := lv_entry ([.ref (ad 0)]) (n := 2) (Nat.le_of_ble_eq_true rfl)
  rw [lg_entry_eq]
  generalize (lg_sl ([.ref (ad 0)]) ++ List.replicate (2 - (lg_sl ([.ref (ad 0)])).length) Slot.unset).toArray = ls at hl ⊢
  have hl : lv_has ls 2 [(0, .ref (ad 0))] := hl
  refine lv_aload_n hx hb dX4_sync_0 rfl (lv_at hl 0 rfl) ?_
  refine lv_iconst (v := nI 0) hx hb dX4_sync_1 (by decide) ?_
  refine me_put (ty := .int) (ci := 4) (C := RX4) (T := TX4) (M := 29) hx hb hts in4 tyX4 tyX4_ok nmX4 hown hK hP hD hS 0 (by omega) (mm_0 cy ad _) rfl 0 (by decide) k75 (fun _ h9 => h9) rfl (by decide +kernel) rfl rfl (Nat.le_of_ble_eq_true rfl) (mm_0 cy ad _) dX4_sync_2 (fun s2 H locs e2 hP hD hS => ?_)
  refine lv_aload_n hx hb dX4_sync_5 rfl (lv_at hl 0 rfl) ?_
  refine lv_aload_n hx hb dX4_sync_6 rfl (lv_at hl 0 rfl) ?_
  refine va_get (D := D) (ci := 4) (v := .int (s2 0 25)) (C := RX4) (T := TX4) (N := 29) hx hb hts in4 hown hK hP 0 (me_get (by omega) (mm_0 cy ad _)) rfl 25 (by decide) k78 (fun _ h9 => h9) rfl dX4_sync_7 ?_
  refine lv_iconst (v := nI 1) hx hb dX4_sync_10 (by decide) ?_
  refine me_calli (f := m_ref (s2 0 25) (nI 1) s2) (w := (mm_W cy ad xr)) (σ := s2) (As := [.int (s2 0 25), .int (nI 1)]) (rest := []) ⟨hx, hb, hml, hown, hts⟩ (fun sz => c_X4_refuses l D cy ad xr (s2 0 25) (nI 1) s2  sz) (cwV 2 hts gX4_sync_X4_refuses rfl rfl rfl (by decide +kernel) ⟨Nat.le_of_ble_eq_true rfl, Nat.le_of_ble_eq_true rfl⟩) (va_recv hK hP (ci := 4) (q0 := 0) rfl (me_get (by omega) (mm_0 cy ad _))) hK hP hD hS hA rfl hl.1 rfl (Nat.le_of_ble_eq_true rfl) dX4_sync_11 ⟨Nat.zero_le _, Nat.zero_le _⟩ (fun r11 s11 H locs e11 hP hD hS => ?_)
  refine lv_if_eq (tgt := 19) hx hb dX4_sync_14 (by decide) (fun c14 => ?_) (fun c14 => ?_)
  ·
    refine lv_aload_n hx hb dX4_sync_19 rfl (lv_at hl 0 rfl) ?_
    refine va_get (D := D) (ci := 4) (v := .int (s11 0 18)) (C := RX4) (T := TX4) (N := 29) hx hb hts in4 hown hK hP 0 (me_get (by omega) (mm_0 cy ad _)) rfl 18 (by decide) k82 (fun _ h9 => h9) rfl dX4_sync_20 ?_
    refine lv_istore_n (lv' := [(1, .int (s11 0 18)), (0, .ref (ad 0))]) hx hb dX4_sync_23 rfl hl (by decide) rfl (fun ls hl => ?_)
    refine lv_aload_n hx hb dX4_sync_24 rfl (lv_at hl 1 rfl) ?_
    refine me_calli (f := m_lw s11) (w := (mm_W cy ad xr)) (σ := s11) (As := []) (rest := []) ⟨hx, hb, hml, hown, hts⟩ (fun sz => c_X4_logWaiting l D cy ad xr  s11 (pu_ref_I e11 (pu_th_I e2 hI)) sz) (cwV 0 hts gX4_sync_X4_logWaiting rfl rfl rfl (by decide +kernel) ⟨Nat.le_of_ble_eq_true rfl, Nat.le_of_ble_eq_true rfl⟩) (va_recv hK hP (ci := 4) (q0 := 0) rfl (me_get (by omega) (mm_0 cy ad _))) hK hP hD hS hA rfl hl.1 rfl (Nat.le_of_ble_eq_true rfl) dX4_sync_25 ⟨Nat.zero_le _, Nat.zero_le _⟩ (fun r25 s25 H locs e25 hP hD hS => ?_)
    refine lv_if_eq (tgt := 35) hx hb dX4_sync_28 (by decide) (fun c28 => ?_) (fun c28 => ?_)
    ·
      refine lv_bipush (v := (-3)) hx hb dX4_sync_35 (by decide) ?_
      exact me_reti hx hb hr rfl hlocks hK hP hD hS (by simp only [m_sync, e2, e11, if_pos c14, e25, if_pos c28]) dX4_sync_37
    ·
      refine lv_iload_n hx hb dX4_sync_31 rfl (lv_at hl 0 rfl) ?_
      refine lv_goto (tgt := 37) hx hb dX4_sync_32 (by decide) ?_
      exact me_reti hx hb hr rfl hlocks hK hP hD hS (by simp only [m_sync, e2, e11, if_pos c14, e25, if_neg c28]) dX4_sync_37
  ·
    refine lv_iconst (v := nI 0) hx hb dX4_sync_17 (by decide) ?_
    exact me_reti hx hb hr rfl hlocks hK hP hD hS (by simp only [m_sync, e2, e11, if_neg c14]) dX4_sync_18

def m_cpt  (σ : me_M) : Int32 × me_M := let s2 := me_st σ 0 0 (nI 0); let q11 := m_ref (s2 0 25) (nI 1) s2; let r11 := q11.1; let s11 := q11.2; if r11 = 0 then (let q22 := m_chk s11; let r22 := q22.1; let s22 := q22.2; (r22, s22)) else ((nI 0, s11))
set_option maxRecDepth 100000 in
set_option maxHeartbeats 4000000 in
theorem c_X4_checkpoint (l : Launch) (D : va_G) (cy : Nat → ClassId) (ad : Nat → Nat) (xr : va_W)  (σ : me_M) (hI : m_I σ) (sz : Nat) : me_Ci l yX4_checkpoint wsX4_checkpoint ({ frames := 5, cells := 0, slots := 0, locals := 111 }) D (me_T cy) (mm_W cy ad xr) [.ref (ad 0)] sz σ (m_cpt  σ) := by
  refine Met.ofW (cc := cX4_checkpoint) (maxL := 1) (ret := (some .int)) (by decide) rfl ?_
  intro p e st m args below meth c s₁ B hml hv
  obtain ⟨rfl, hsz, hP, hK, hD0⟩ := hv
  have hx := B.exec
  have hb := B.bytes
  have hr := B.returns
  have hts := atoms_spec (ws := wsX4_checkpoint) B.pre
  have hown : st.vm.findClass RX4 = some m.cls := findClass_of_methodNamed B.named
  have hlocks := B.notSynchronized
  have in4 : ∀ w ∈ u_ws RX4 TX4 29, w ∈ wsX4_checkpoint := by decide +kernel
  have k75 := hts (.fieldLink RX4 75 "TwinWritesModel" "thrown" "I") (by decide +kernel)
  have k78 := hts (.fieldLink RX4 78 "TwinWritesModel" "isDown" "Z") (by decide +kernel)
  subst hsz
  have hD := hD0.self (sz := st.heap.size)
  have hA : ∀ q : Nat, st.heap.size ≤ q → va_A ((mm_W cy ad xr) σ) st.heap.size q := fun q h => Or.inr h
  have hS : va_S (va_A ((mm_W cy ad xr) σ) st.heap.size) st.heap st.heap [] := va_S.rf
  generalize va_A ((mm_W cy ad xr) σ) st.heap.size = A at hD hA hS ⊢
  have hl := lv_entry ([.ref (ad 0)]) (n := 1) (Nat.le_of_ble_eq_true rfl)
  rw [lg_entry_eq]
  generalize (lg_sl ([.ref (ad 0)]) ++ List.replicate (1 - (lg_sl ([.ref (ad 0)])).length) Slot.unset).toArray = ls at hl ⊢
  have hl : lv_has ls 1 [(0, .ref (ad 0))] := hl
  refine lv_aload_n hx hb dX4_checkpoint_0 rfl (lv_at hl 0 rfl) ?_
  refine lv_iconst (v := nI 0) hx hb dX4_checkpoint_1 (by decide) ?_
  refine me_put (ty := .int) (ci := 4) (C := RX4) (T := TX4) (M := 29) hx hb hts in4 tyX4 tyX4_ok nmX4 hown hK hP hD hS 0 (by omega) (mm_0 cy ad _) rfl 0 (by decide) k75 (fun _ h9 => h9) rfl (by decide +kernel) rfl rfl (Nat.le_of_ble_eq_true rfl) (mm_0 cy ad _) dX4_checkpoint_2 (fun s2 H locs e2 hP hD hS => ?_)
  refine lv_aload_n hx hb dX4_checkpoint_5 rfl (lv_at hl 0 rfl) ?_
  refine lv_aload_n hx hb dX4_checkpoint_6 rfl (lv_at hl 0 rfl) ?_
  refine va_get (D := D) (ci := 4) (v := .int (s2 0 25)) (C := RX4) (T := TX4) (N := 29) hx hb hts in4 hown hK hP 0 (me_get (by omega) (mm_0 cy ad _)) rfl 25 (by decide) k78 (fun _ h9 => h9) rfl dX4_checkpoint_7 ?_
  refine lv_iconst (v := nI 1) hx hb dX4_checkpoint_10 (by decide) ?_
  refine me_calli (f := m_ref (s2 0 25) (nI 1) s2) (w := (mm_W cy ad xr)) (σ := s2) (As := [.int (s2 0 25), .int (nI 1)]) (rest := []) ⟨hx, hb, hml, hown, hts⟩ (fun sz => c_X4_refuses l D cy ad xr (s2 0 25) (nI 1) s2  sz) (cwV 2 hts gX4_checkpoint_X4_refuses rfl rfl rfl (by decide +kernel) ⟨Nat.le_of_ble_eq_true rfl, Nat.le_of_ble_eq_true rfl⟩) (va_recv hK hP (ci := 4) (q0 := 0) rfl (me_get (by omega) (mm_0 cy ad _))) hK hP hD hS hA rfl hl.1 rfl (Nat.le_of_ble_eq_true rfl) dX4_checkpoint_11 ⟨Nat.zero_le _, Nat.zero_le _⟩ (fun r11 s11 H locs e11 hP hD hS => ?_)
  refine lv_if_eq (tgt := 21) hx hb dX4_checkpoint_14 (by decide) (fun c14 => ?_) (fun c14 => ?_)
  ·
    refine lv_aload_n hx hb dX4_checkpoint_21 rfl (lv_at hl 0 rfl) ?_
    refine me_calli (f := m_chk s11) (w := (mm_W cy ad xr)) (σ := s11) (As := []) (rest := []) ⟨hx, hb, hml, hown, hts⟩ (fun sz => c_X4_check l D cy ad xr  s11 (pu_ref_I e11 (pu_th_I e2 hI)) sz) (cwV 0 hts gX4_checkpoint_X4_check rfl rfl rfl (by decide +kernel) ⟨Nat.le_of_ble_eq_true rfl, Nat.le_of_ble_eq_true rfl⟩) (va_recv hK hP (ci := 4) (q0 := 0) rfl (me_get (by omega) (mm_0 cy ad _))) hK hP hD hS hA rfl hl.1 rfl (Nat.le_of_ble_eq_true rfl) dX4_checkpoint_22 ⟨Nat.zero_le _, Nat.zero_le _⟩ (fun r22 s22 H locs e22 hP hD hS => ?_)
    exact me_reti hx hb hr rfl hlocks hK hP hD hS (by simp only [m_cpt, e2, e11, if_pos c14, e22]) dX4_checkpoint_25
  ·
    refine lv_iconst (v := nI 0) hx hb dX4_checkpoint_17 (by decide) ?_
    refine lv_goto (tgt := 25) hx hb dX4_checkpoint_18 (by decide) ?_
    exact me_reti hx hb hr rfl hlocks hK hP hD hS (by simp only [m_cpt, e2, e11, if_neg c14]) dX4_checkpoint_25

def m_power (x : Int32) (σ : me_M) : me_M := let s2 := me_st σ 0 0 (nI 0); if (m_in x ((-1)) (nI 10000)) = 0 then (let q23 := m_ref (nI 1) (nI 1) s2; let r23 := q23.1; let s23 := q23.2; if r23 = 0 then (let s31 := me_st s23 0 24 x; s31) else (s23)) else (let q23 := m_ref (nI 0) (nI 1) s2; let r23 := q23.1; let s23 := q23.2; if r23 = 0 then (let s31 := me_st s23 0 24 x; s31) else (s23))
set_option maxRecDepth 100000 in
set_option maxHeartbeats 4000000 in
theorem c_X4_power (l : Launch) (D : va_G) (cy : Nat → ClassId) (ad : Nat → Nat) (xr : va_W) (x : Int32) (σ : me_M)  (sz : Nat) : me_Cv l yX4_power wsX4_power ({ frames := 1, cells := 0, slots := 0, locals := 22 }) D (me_T cy) (mm_W cy ad xr) [.ref (ad 0), .int x] sz σ (m_power x σ) := by
  refine Met.ofW (cc := cX4_power) (maxL := 2) (ret := none) (by decide) rfl ?_
  intro p e st m args below meth c s₁ B hml hv
  obtain ⟨rfl, hsz, hP, hK, hD0⟩ := hv
  have hx := B.exec
  have hb := B.bytes
  have hr := B.returns
  have hts := atoms_spec (ws := wsX4_power) B.pre
  have hown : st.vm.findClass RX4 = some m.cls := findClass_of_methodNamed B.named
  have hlocks := B.notSynchronized
  have in4 : ∀ w ∈ u_ws RX4 TX4 29, w ∈ wsX4_power := by decide +kernel
  have k72 := hts (.fieldLink RX4 72 "TwinWritesModel" "power" "I") (by decide +kernel)
  have k75 := hts (.fieldLink RX4 75 "TwinWritesModel" "thrown" "I") (by decide +kernel)
  subst hsz
  have hD := hD0.self (sz := st.heap.size)
  have hA : ∀ q : Nat, st.heap.size ≤ q → va_A ((mm_W cy ad xr) σ) st.heap.size q := fun q h => Or.inr h
  have hS : va_S (va_A ((mm_W cy ad xr) σ) st.heap.size) st.heap st.heap [] := va_S.rf
  generalize va_A ((mm_W cy ad xr) σ) st.heap.size = A at hD hA hS ⊢
  have hl := lv_entry ([.ref (ad 0), .int x]) (n := 2) (Nat.le_of_ble_eq_true rfl)
  rw [lg_entry_eq]
  generalize (lg_sl ([.ref (ad 0), .int x]) ++ List.replicate (2 - (lg_sl ([.ref (ad 0), .int x])).length) Slot.unset).toArray = ls at hl ⊢
  have hl : lv_has ls 2 [(0, .ref (ad 0)), (1, .int x)] := hl
  refine lv_aload_n hx hb dX4_power_0 rfl (lv_at hl 0 rfl) ?_
  refine lv_iconst (v := nI 0) hx hb dX4_power_1 (by decide) ?_
  refine me_put (ty := .int) (ci := 4) (C := RX4) (T := TX4) (M := 29) hx hb hts in4 tyX4 tyX4_ok nmX4 hown hK hP hD hS 0 (by omega) (mm_0 cy ad _) rfl 0 (by decide) k75 (fun _ h9 => h9) rfl (by decide +kernel) rfl rfl (Nat.le_of_ble_eq_true rfl) (mm_0 cy ad _) dX4_power_2 (fun s2 H locs e2 hP hD hS => ?_)
  refine lv_aload_n hx hb dX4_power_5 rfl (lv_at hl 0 rfl) ?_
  refine lv_iload_n hx hb dX4_power_6 rfl (lv_at hl 1 rfl) ?_
  refine lv_iconst (v := (-1)) hx hb dX4_power_7 (by decide) ?_
  refine lv_sipush (v := nI 10000) hx hb dX4_power_8 (by decide) ?_
  refine me_calls (As := [.int x, .int ((-1)), .int (nI 10000)]) (rest := [.ref (ad 0)]) ⟨hx, hb, hml, hown, hts⟩ (c_X4_in l x ((-1)) (nI 10000) ) (cwS 3 hts gX4_power_X4_in rfl rfl rfl (by decide +kernel) ⟨Nat.le_of_ble_eq_true rfl, Nat.le_of_ble_eq_true rfl⟩) rfl hl.1 rfl (Nat.le_of_ble_eq_true rfl) dX4_power_11 ⟨Nat.zero_le _, Nat.zero_le _⟩ ?_
  refine lv_if_ne (tgt := 21) hx hb dX4_power_14 (by decide) (fun c14 => ?_) (fun c14 => ?_)
  ·
    refine lv_iconst (v := nI 0) hx hb dX4_power_21 (by decide) ?_
    refine lv_iconst (v := nI 1) hx hb dX4_power_22 (by decide) ?_
    refine me_calli (f := m_ref (nI 0) (nI 1) s2) (w := (mm_W cy ad xr)) (σ := s2) (As := [.int (nI 0), .int (nI 1)]) (rest := []) ⟨hx, hb, hml, hown, hts⟩ (fun sz => c_X4_refuses l D cy ad xr (nI 0) (nI 1) s2  sz) (cwV 2 hts gX4_power_X4_refuses rfl rfl rfl (by decide +kernel) ⟨Nat.le_of_ble_eq_true rfl, Nat.le_of_ble_eq_true rfl⟩) (va_recv hK hP (ci := 4) (q0 := 0) rfl (me_get (by omega) (mm_0 cy ad _))) hK hP hD hS hA rfl hl.1 rfl (Nat.le_of_ble_eq_true rfl) dX4_power_23 ⟨Nat.zero_le _, Nat.zero_le _⟩ (fun r23 s23 H locs e23 hP hD hS => ?_)
    refine lv_if_ne (tgt := 34) hx hb dX4_power_26 (by decide) (fun c26 => ?_) (fun c26 => ?_)
    ·
      exact me_retv hx hb hr hlocks hK hP hD hS (by simp only [m_power, e2, if_neg c14, e23, if_neg c26]) dX4_power_34
    ·
      refine lv_aload_n hx hb dX4_power_29 rfl (lv_at hl 0 rfl) ?_
      refine lv_iload_n hx hb dX4_power_30 rfl (lv_at hl 1 rfl) ?_
      refine me_put (ty := .int) (ci := 4) (C := RX4) (T := TX4) (M := 29) hx hb hts in4 tyX4 tyX4_ok nmX4 hown hK hP hD hS 0 (by omega) (mm_0 cy ad _) rfl 24 (by decide) k72 (fun _ h9 => h9) rfl (by decide +kernel) rfl rfl (Nat.le_of_ble_eq_true rfl) (mm_0 cy ad _) dX4_power_31 (fun s31 H locs e31 hP hD hS => ?_)
      exact me_retv hx hb hr hlocks hK hP hD hS (by simp only [m_power, e2, if_neg c14, e23, if_pos c26, e31]) dX4_power_34
  ·
    refine lv_iconst (v := nI 1) hx hb dX4_power_17 (by decide) ?_
    refine lv_goto (tgt := 22) hx hb dX4_power_18 (by decide) ?_
    refine lv_iconst (v := nI 1) hx hb dX4_power_22 (by decide) ?_
    refine me_calli (f := m_ref (nI 1) (nI 1) s2) (w := (mm_W cy ad xr)) (σ := s2) (As := [.int (nI 1), .int (nI 1)]) (rest := []) ⟨hx, hb, hml, hown, hts⟩ (fun sz => c_X4_refuses l D cy ad xr (nI 1) (nI 1) s2  sz) (cwV 2 hts gX4_power_X4_refuses rfl rfl rfl (by decide +kernel) ⟨Nat.le_of_ble_eq_true rfl, Nat.le_of_ble_eq_true rfl⟩) (va_recv hK hP (ci := 4) (q0 := 0) rfl (me_get (by omega) (mm_0 cy ad _))) hK hP hD hS hA rfl hl.1 rfl (Nat.le_of_ble_eq_true rfl) dX4_power_23 ⟨Nat.zero_le _, Nat.zero_le _⟩ (fun r23 s23 H locs e23 hP hD hS => ?_)
    refine lv_if_ne (tgt := 34) hx hb dX4_power_26 (by decide) (fun c26 => ?_) (fun c26 => ?_)
    ·
      exact me_retv hx hb hr hlocks hK hP hD hS (by simp only [m_power, e2, if_pos c14, e23, if_neg c26]) dX4_power_34
    ·
      refine lv_aload_n hx hb dX4_power_29 rfl (lv_at hl 0 rfl) ?_
      refine lv_iload_n hx hb dX4_power_30 rfl (lv_at hl 1 rfl) ?_
      refine me_put (ty := .int) (ci := 4) (C := RX4) (T := TX4) (M := 29) hx hb hts in4 tyX4 tyX4_ok nmX4 hown hK hP hD hS 0 (by omega) (mm_0 cy ad _) rfl 24 (by decide) k72 (fun _ h9 => h9) rfl (by decide +kernel) rfl rfl (Nat.le_of_ble_eq_true rfl) (mm_0 cy ad _) dX4_power_31 (fun s31 H locs e31 hP hD hS => ?_)
      exact me_retv hx hb hr hlocks hK hP hD hS (by simp only [m_power, e2, if_pos c14, e23, if_pos c26, e31]) dX4_power_34

def m_cut  (σ : me_M) : Int32 × me_M := let s2 := me_st σ 0 0 (nI 0); let q11 := m_ref (s2 0 25) (nI 1) s2; let r11 := q11.1; let s11 := q11.2; if r11 = 0 then (let s25 := m_down s11; (s11 0 18, s25)) else ((nI 0, s11))
set_option maxRecDepth 100000 in
set_option maxHeartbeats 4000000 in
theorem c_X4_cut (l : Launch) (D : va_G) (cy : Nat → ClassId) (ad : Nat → Nat) (xr : va_W)  (σ : me_M)  (sz : Nat) : me_Ci l yX4_cut wsX4_cut ({ frames := 1, cells := 0, slots := 0, locals := 22 }) D (me_T cy) (mm_W cy ad xr) [.ref (ad 0)] sz σ (m_cut  σ) := by
  refine Met.ofW (cc := cX4_cut) (maxL := 2) (ret := (some .int)) (by decide) rfl ?_
  intro p e st m args below meth c s₁ B hml hv
  obtain ⟨rfl, hsz, hP, hK, hD0⟩ := hv
  have hx := B.exec
  have hb := B.bytes
  have hr := B.returns
  have hts := atoms_spec (ws := wsX4_cut) B.pre
  have hown : st.vm.findClass RX4 = some m.cls := findClass_of_methodNamed B.named
  have hlocks := B.notSynchronized
  have in4 : ∀ w ∈ u_ws RX4 TX4 29, w ∈ wsX4_cut := by decide +kernel
  have k75 := hts (.fieldLink RX4 75 "TwinWritesModel" "thrown" "I") (by decide +kernel)
  have k78 := hts (.fieldLink RX4 78 "TwinWritesModel" "isDown" "Z") (by decide +kernel)
  have k82 := hts (.fieldLink RX4 82 "TwinWritesModel" "waiting" "I") (by decide +kernel)
  subst hsz
  have hD := hD0.self (sz := st.heap.size)
  have hA : ∀ q : Nat, st.heap.size ≤ q → va_A ((mm_W cy ad xr) σ) st.heap.size q := fun q h => Or.inr h
  have hS : va_S (va_A ((mm_W cy ad xr) σ) st.heap.size) st.heap st.heap [] := va_S.rf
  generalize va_A ((mm_W cy ad xr) σ) st.heap.size = A at hD hA hS ⊢
  have hl := lv_entry ([.ref (ad 0)]) (n := 2) (Nat.le_of_ble_eq_true rfl)
  rw [lg_entry_eq]
  generalize (lg_sl ([.ref (ad 0)]) ++ List.replicate (2 - (lg_sl ([.ref (ad 0)])).length) Slot.unset).toArray = ls at hl ⊢
  have hl : lv_has ls 2 [(0, .ref (ad 0))] := hl
  refine lv_aload_n hx hb dX4_cut_0 rfl (lv_at hl 0 rfl) ?_
  refine lv_iconst (v := nI 0) hx hb dX4_cut_1 (by decide) ?_
  refine me_put (ty := .int) (ci := 4) (C := RX4) (T := TX4) (M := 29) hx hb hts in4 tyX4 tyX4_ok nmX4 hown hK hP hD hS 0 (by omega) (mm_0 cy ad _) rfl 0 (by decide) k75 (fun _ h9 => h9) rfl (by decide +kernel) rfl rfl (Nat.le_of_ble_eq_true rfl) (mm_0 cy ad _) dX4_cut_2 (fun s2 H locs e2 hP hD hS => ?_)
  refine lv_aload_n hx hb dX4_cut_5 rfl (lv_at hl 0 rfl) ?_
  refine lv_aload_n hx hb dX4_cut_6 rfl (lv_at hl 0 rfl) ?_
  refine va_get (D := D) (ci := 4) (v := .int (s2 0 25)) (C := RX4) (T := TX4) (N := 29) hx hb hts in4 hown hK hP 0 (me_get (by omega) (mm_0 cy ad _)) rfl 25 (by decide) k78 (fun _ h9 => h9) rfl dX4_cut_7 ?_
  refine lv_iconst (v := nI 1) hx hb dX4_cut_10 (by decide) ?_
  refine me_calli (f := m_ref (s2 0 25) (nI 1) s2) (w := (mm_W cy ad xr)) (σ := s2) (As := [.int (s2 0 25), .int (nI 1)]) (rest := []) ⟨hx, hb, hml, hown, hts⟩ (fun sz => c_X4_refuses l D cy ad xr (s2 0 25) (nI 1) s2  sz) (cwV 2 hts gX4_cut_X4_refuses rfl rfl rfl (by decide +kernel) ⟨Nat.le_of_ble_eq_true rfl, Nat.le_of_ble_eq_true rfl⟩) (va_recv hK hP (ci := 4) (q0 := 0) rfl (me_get (by omega) (mm_0 cy ad _))) hK hP hD hS hA rfl hl.1 rfl (Nat.le_of_ble_eq_true rfl) dX4_cut_11 ⟨Nat.zero_le _, Nat.zero_le _⟩ (fun r11 s11 H locs e11 hP hD hS => ?_)
  refine lv_if_eq (tgt := 19) hx hb dX4_cut_14 (by decide) (fun c14 => ?_) (fun c14 => ?_)
  ·
    refine lv_aload_n hx hb dX4_cut_19 rfl (lv_at hl 0 rfl) ?_
    refine va_get (D := D) (ci := 4) (v := .int (s11 0 18)) (C := RX4) (T := TX4) (N := 29) hx hb hts in4 hown hK hP 0 (me_get (by omega) (mm_0 cy ad _)) rfl 18 (by decide) k82 (fun _ h9 => h9) rfl dX4_cut_20 ?_
    refine lv_istore_n (lv' := [(1, .int (s11 0 18)), (0, .ref (ad 0))]) hx hb dX4_cut_23 rfl hl (by decide) rfl (fun ls hl => ?_)
    refine lv_aload_n hx hb dX4_cut_24 rfl (lv_at hl 1 rfl) ?_
    refine me_callv (f := m_down s11) (w := (mm_W cy ad xr)) (σ := s11) (As := []) (rest := []) ⟨hx, hb, hml, hown, hts⟩ (fun sz => c_X4_goDown l D cy ad xr  s11  sz) (cwV 0 hts gX4_cut_X4_goDown rfl rfl rfl (by decide +kernel) ⟨Nat.le_of_ble_eq_true rfl, Nat.le_of_ble_eq_true rfl⟩) (va_recv hK hP (ci := 4) (q0 := 0) rfl (me_get (by omega) (mm_0 cy ad _))) hK hP hD hS hA rfl hl.1 rfl (Nat.le_of_ble_eq_true rfl) dX4_cut_25 ⟨Nat.zero_le _, Nat.zero_le _⟩ (fun s25 H locs e25 hP hD hS => ?_)
    refine lv_iload_n hx hb dX4_cut_28 rfl (lv_at hl 0 rfl) ?_
    exact me_reti hx hb hr rfl hlocks hK hP hD hS (by simp only [m_cut, e2, e11, if_pos c14, e25]) dX4_cut_29
  ·
    refine lv_iconst (v := nI 0) hx hb dX4_cut_17 (by decide) ?_
    exact me_reti hx hb hr rfl hlocks hK hP hD hS (by simp only [m_cut, e2, e11, if_neg c14]) dX4_cut_18

def m_count (x : Int32) (σ : me_M) : Int32 × me_M := let s2 := me_st σ 0 0 (nI 0); if (m_in x (nI 0) (nI 6)) = 0 then (let q22 := m_ref (nI 1) (nI 1) s2; let r22 := q22.1; let s22 := q22.2; if r22 = 0 then (if x = 0 then (if (s22 0 25) = 0 then (((s22 0 17) - (nI 1), s22)) else ((nI 0, s22))) else (if x = nI 1 then ((s22 0 18, s22)) else (if x = nI 2 then ((s22 0 26, s22)) else (if x = nI 3 then (if (s22 0 25) = 0 then ((nI 0, s22)) else ((nI 1, s22))) else (if x = nI 4 then ((s22 0 27, s22)) else (if x = nI 5 then ((s22 0 28, s22)) else (if (s22 0 25) = 0 then (let r134 := m_room s22; (r134, s22)) else ((nI 0, s22))))))))) else ((nI 0, s22))) else (let q22 := m_ref (nI 0) (nI 1) s2; let r22 := q22.1; let s22 := q22.2; if r22 = 0 then (if x = 0 then (if (s22 0 25) = 0 then (((s22 0 17) - (nI 1), s22)) else ((nI 0, s22))) else (if x = nI 1 then ((s22 0 18, s22)) else (if x = nI 2 then ((s22 0 26, s22)) else (if x = nI 3 then (if (s22 0 25) = 0 then ((nI 0, s22)) else ((nI 1, s22))) else (if x = nI 4 then ((s22 0 27, s22)) else (if x = nI 5 then ((s22 0 28, s22)) else (if (s22 0 25) = 0 then (let r134 := m_room s22; (r134, s22)) else ((nI 0, s22))))))))) else ((nI 0, s22)))
set_option maxRecDepth 100000 in
set_option maxHeartbeats 4000000 in
theorem c_X4_count (l : Launch) (D : va_G) (cy : Nat → ClassId) (ad : Nat → Nat) (xr : va_W) (x : Int32) (σ : me_M)  (sz : Nat) : me_Ci l yX4_count wsX4_count ({ frames := 1, cells := 0, slots := 0, locals := 22 }) D (me_T cy) (mm_W cy ad xr) [.ref (ad 0), .int x] sz σ (m_count x σ) := by
  refine Met.ofW (cc := cX4_count) (maxL := 2) (ret := (some .int)) (by decide) rfl ?_
  intro p e st m args below meth c s₁ B hml hv
  obtain ⟨rfl, hsz, hP, hK, hD0⟩ := hv
  have hx := B.exec
  have hb := B.bytes
  have hr := B.returns
  have hts := atoms_spec (ws := wsX4_count) B.pre
  have hown : st.vm.findClass RX4 = some m.cls := findClass_of_methodNamed B.named
  have hlocks := B.notSynchronized
  have in4 : ∀ w ∈ u_ws RX4 TX4 29, w ∈ wsX4_count := by decide +kernel
  have k57 := hts (.fieldLink RX4 57 "TwinWritesModel" "next" "I") (by decide +kernel)
  have k75 := hts (.fieldLink RX4 75 "TwinWritesModel" "thrown" "I") (by decide +kernel)
  have k78 := hts (.fieldLink RX4 78 "TwinWritesModel" "isDown" "Z") (by decide +kernel)
  have k82 := hts (.fieldLink RX4 82 "TwinWritesModel" "waiting" "I") (by decide +kernel)
  have k88 := hts (.fieldLink RX4 88 "TwinWritesModel" "sectors" "I") (by decide +kernel)
  have k106 := hts (.fieldLink RX4 106 "TwinWritesModel" "cleaned" "I") (by decide +kernel)
  have k144 := hts (.fieldLink RX4 144 "TwinWritesModel" "mended" "I") (by decide +kernel)
  subst hsz
  have hD := hD0.self (sz := st.heap.size)
  have hA : ∀ q : Nat, st.heap.size ≤ q → va_A ((mm_W cy ad xr) σ) st.heap.size q := fun q h => Or.inr h
  have hS : va_S (va_A ((mm_W cy ad xr) σ) st.heap.size) st.heap st.heap [] := va_S.rf
  generalize va_A ((mm_W cy ad xr) σ) st.heap.size = A at hD hA hS ⊢
  have hl := lv_entry ([.ref (ad 0), .int x]) (n := 2) (Nat.le_of_ble_eq_true rfl)
  rw [lg_entry_eq]
  generalize (lg_sl ([.ref (ad 0), .int x]) ++ List.replicate (2 - (lg_sl ([.ref (ad 0), .int x])).length) Slot.unset).toArray = ls at hl ⊢
  have hl : lv_has ls 2 [(0, .ref (ad 0)), (1, .int x)] := hl
  refine lv_aload_n hx hb dX4_count_0 rfl (lv_at hl 0 rfl) ?_
  refine lv_iconst (v := nI 0) hx hb dX4_count_1 (by decide) ?_
  refine me_put (ty := .int) (ci := 4) (C := RX4) (T := TX4) (M := 29) hx hb hts in4 tyX4 tyX4_ok nmX4 hown hK hP hD hS 0 (by omega) (mm_0 cy ad _) rfl 0 (by decide) k75 (fun _ h9 => h9) rfl (by decide +kernel) rfl rfl (Nat.le_of_ble_eq_true rfl) (mm_0 cy ad _) dX4_count_2 (fun s2 H locs e2 hP hD hS => ?_)
  refine lv_aload_n hx hb dX4_count_5 rfl (lv_at hl 0 rfl) ?_
  refine lv_iload_n hx hb dX4_count_6 rfl (lv_at hl 1 rfl) ?_
  refine lv_iconst (v := nI 0) hx hb dX4_count_7 (by decide) ?_
  refine lv_bipush (v := nI 6) hx hb dX4_count_8 (by decide) ?_
  refine me_calls (As := [.int x, .int (nI 0), .int (nI 6)]) (rest := [.ref (ad 0)]) ⟨hx, hb, hml, hown, hts⟩ (c_X4_in l x (nI 0) (nI 6) ) (cwS 3 hts gX4_count_X4_in rfl rfl rfl (by decide +kernel) ⟨Nat.le_of_ble_eq_true rfl, Nat.le_of_ble_eq_true rfl⟩) rfl hl.1 rfl (Nat.le_of_ble_eq_true rfl) dX4_count_10 ⟨Nat.zero_le _, Nat.zero_le _⟩ ?_
  refine lv_if_ne (tgt := 20) hx hb dX4_count_13 (by decide) (fun c13 => ?_) (fun c13 => ?_)
  ·
    refine lv_iconst (v := nI 0) hx hb dX4_count_20 (by decide) ?_
    refine lv_iconst (v := nI 1) hx hb dX4_count_21 (by decide) ?_
    refine me_calli (f := m_ref (nI 0) (nI 1) s2) (w := (mm_W cy ad xr)) (σ := s2) (As := [.int (nI 0), .int (nI 1)]) (rest := []) ⟨hx, hb, hml, hown, hts⟩ (fun sz => c_X4_refuses l D cy ad xr (nI 0) (nI 1) s2  sz) (cwV 2 hts gX4_count_X4_refuses rfl rfl rfl (by decide +kernel) ⟨Nat.le_of_ble_eq_true rfl, Nat.le_of_ble_eq_true rfl⟩) (va_recv hK hP (ci := 4) (q0 := 0) rfl (me_get (by omega) (mm_0 cy ad _))) hK hP hD hS hA rfl hl.1 rfl (Nat.le_of_ble_eq_true rfl) dX4_count_22 ⟨Nat.zero_le _, Nat.zero_le _⟩ (fun r22 s22 H locs e22 hP hD hS => ?_)
    refine lv_if_eq (tgt := 30) hx hb dX4_count_25 (by decide) (fun c25 => ?_) (fun c25 => ?_)
    ·
      refine lv_iload_n hx hb dX4_count_30 rfl (lv_at hl 1 rfl) ?_
      refine lv_if_ne (tgt := 54) hx hb dX4_count_31 (by decide) (fun c31 => ?_) (fun c31 => ?_)
      ·
        refine lv_iload_n hx hb dX4_count_54 rfl (lv_at hl 1 rfl) ?_
        refine lv_iconst (v := nI 1) hx hb dX4_count_55 (by decide) ?_
        refine lv_icmp_ne (tgt := 66) hx hb dX4_count_56 (by decide) (fun c56 => ?_) (fun c56 => ?_)
        ·
          refine lv_iload_n hx hb dX4_count_66 rfl (lv_at hl 1 rfl) ?_
          refine lv_iconst (v := nI 2) hx hb dX4_count_67 (by decide) ?_
          refine lv_icmp_ne (tgt := 78) hx hb dX4_count_68 (by decide) (fun c68 => ?_) (fun c68 => ?_)
          ·
            refine lv_iload_n hx hb dX4_count_78 rfl (lv_at hl 1 rfl) ?_
            refine lv_iconst (v := nI 3) hx hb dX4_count_79 (by decide) ?_
            refine lv_icmp_ne (tgt := 98) hx hb dX4_count_80 (by decide) (fun c80 => ?_) (fun c80 => ?_)
            ·
              refine lv_iload_n hx hb dX4_count_98 rfl (lv_at hl 1 rfl) ?_
              refine lv_iconst (v := nI 4) hx hb dX4_count_99 (by decide) ?_
              refine lv_icmp_ne (tgt := 110) hx hb dX4_count_100 (by decide) (fun c100 => ?_) (fun c100 => ?_)
              ·
                refine lv_iload_n hx hb dX4_count_110 rfl (lv_at hl 1 rfl) ?_
                refine lv_iconst (v := nI 5) hx hb dX4_count_111 (by decide) ?_
                refine lv_icmp_ne (tgt := 122) hx hb dX4_count_112 (by decide) (fun c112 => ?_) (fun c112 => ?_)
                ·
                  refine lv_aload_n hx hb dX4_count_122 rfl (lv_at hl 0 rfl) ?_
                  refine va_get (D := D) (ci := 4) (v := .int (s22 0 25)) (C := RX4) (T := TX4) (N := 29) hx hb hts in4 hown hK hP 0 (me_get (by omega) (mm_0 cy ad _)) rfl 25 (by decide) k78 (fun _ h9 => h9) rfl dX4_count_123 ?_
                  refine lv_if_eq (tgt := 133) hx hb dX4_count_126 (by decide) (fun c126 => ?_) (fun c126 => ?_)
                  ·
                    refine lv_aload_n hx hb dX4_count_133 rfl (lv_at hl 0 rfl) ?_
                    refine me_callr (f := m_room s22) (w := (mm_W cy ad xr)) (σ := s22) (As := []) (rest := []) ⟨hx, hb, hml, hown, hts⟩ (fun sz => c_X4_room l D cy ad xr  s22  sz) (cwV 0 hts gX4_count_X4_room rfl rfl rfl (by decide +kernel) ⟨Nat.le_of_ble_eq_true rfl, Nat.le_of_ble_eq_true rfl⟩) (va_recv hK hP (ci := 4) (q0 := 0) rfl (me_get (by omega) (mm_0 cy ad _))) hK hP hD hS hA rfl hl.1 rfl (Nat.le_of_ble_eq_true rfl) dX4_count_134 ⟨Nat.zero_le _, Nat.zero_le _⟩ (fun r134 H locs e134 hP hD hS => ?_)
                    exact me_reti hx hb hr rfl hlocks hK hP hD hS (by simp only [m_count, e2, if_neg c13, e22, if_pos c25, if_neg c31, if_neg c56, if_neg c68, if_neg c80, if_neg c100, if_neg c112, if_pos c126, e134]) dX4_count_137
                  ·
                    refine lv_iconst (v := nI 0) hx hb dX4_count_129 (by decide) ?_
                    refine lv_goto (tgt := 137) hx hb dX4_count_130 (by decide) ?_
                    exact me_reti hx hb hr rfl hlocks hK hP hD hS (by simp only [m_count, e2, if_neg c13, e22, if_pos c25, if_neg c31, if_neg c56, if_neg c68, if_neg c80, if_neg c100, if_neg c112, if_neg c126]) dX4_count_137
                ·
                  refine lv_aload_n hx hb dX4_count_115 rfl (lv_at hl 0 rfl) ?_
                  refine va_get (D := D) (ci := 4) (v := .int (s22 0 28)) (C := RX4) (T := TX4) (N := 29) hx hb hts in4 hown hK hP 0 (me_get (by omega) (mm_0 cy ad _)) rfl 28 (by decide) k144 (fun _ h9 => h9) rfl dX4_count_116 ?_
                  refine lv_goto (tgt := 137) hx hb dX4_count_119 (by decide) ?_
                  exact me_reti hx hb hr rfl hlocks hK hP hD hS (by simp only [m_count, e2, if_neg c13, e22, if_pos c25, if_neg c31, if_neg c56, if_neg c68, if_neg c80, if_neg c100, if_pos c112]) dX4_count_137
              ·
                refine lv_aload_n hx hb dX4_count_103 rfl (lv_at hl 0 rfl) ?_
                refine va_get (D := D) (ci := 4) (v := .int (s22 0 27)) (C := RX4) (T := TX4) (N := 29) hx hb hts in4 hown hK hP 0 (me_get (by omega) (mm_0 cy ad _)) rfl 27 (by decide) k106 (fun _ h9 => h9) rfl dX4_count_104 ?_
                refine lv_goto (tgt := 137) hx hb dX4_count_107 (by decide) ?_
                exact me_reti hx hb hr rfl hlocks hK hP hD hS (by simp only [m_count, e2, if_neg c13, e22, if_pos c25, if_neg c31, if_neg c56, if_neg c68, if_neg c80, if_pos c100]) dX4_count_137
            ·
              refine lv_aload_n hx hb dX4_count_83 rfl (lv_at hl 0 rfl) ?_
              refine va_get (D := D) (ci := 4) (v := .int (s22 0 25)) (C := RX4) (T := TX4) (N := 29) hx hb hts in4 hown hK hP 0 (me_get (by omega) (mm_0 cy ad _)) rfl 25 (by decide) k78 (fun _ h9 => h9) rfl dX4_count_84 ?_
              refine lv_if_eq (tgt := 94) hx hb dX4_count_87 (by decide) (fun c87 => ?_) (fun c87 => ?_)
              ·
                refine lv_iconst (v := nI 0) hx hb dX4_count_94 (by decide) ?_
                refine lv_goto (tgt := 137) hx hb dX4_count_95 (by decide) ?_
                exact me_reti hx hb hr rfl hlocks hK hP hD hS (by simp only [m_count, e2, if_neg c13, e22, if_pos c25, if_neg c31, if_neg c56, if_neg c68, if_pos c80, if_pos c87]) dX4_count_137
              ·
                refine lv_iconst (v := nI 1) hx hb dX4_count_90 (by decide) ?_
                refine lv_goto (tgt := 137) hx hb dX4_count_91 (by decide) ?_
                exact me_reti hx hb hr rfl hlocks hK hP hD hS (by simp only [m_count, e2, if_neg c13, e22, if_pos c25, if_neg c31, if_neg c56, if_neg c68, if_pos c80, if_neg c87]) dX4_count_137
          ·
            refine lv_aload_n hx hb dX4_count_71 rfl (lv_at hl 0 rfl) ?_
            refine va_get (D := D) (ci := 4) (v := .int (s22 0 26)) (C := RX4) (T := TX4) (N := 29) hx hb hts in4 hown hK hP 0 (me_get (by omega) (mm_0 cy ad _)) rfl 26 (by decide) k88 (fun _ h9 => h9) rfl dX4_count_72 ?_
            refine lv_goto (tgt := 137) hx hb dX4_count_75 (by decide) ?_
            exact me_reti hx hb hr rfl hlocks hK hP hD hS (by simp only [m_count, e2, if_neg c13, e22, if_pos c25, if_neg c31, if_neg c56, if_pos c68]) dX4_count_137
        ·
          refine lv_aload_n hx hb dX4_count_59 rfl (lv_at hl 0 rfl) ?_
          refine va_get (D := D) (ci := 4) (v := .int (s22 0 18)) (C := RX4) (T := TX4) (N := 29) hx hb hts in4 hown hK hP 0 (me_get (by omega) (mm_0 cy ad _)) rfl 18 (by decide) k82 (fun _ h9 => h9) rfl dX4_count_60 ?_
          refine lv_goto (tgt := 137) hx hb dX4_count_63 (by decide) ?_
          exact me_reti hx hb hr rfl hlocks hK hP hD hS (by simp only [m_count, e2, if_neg c13, e22, if_pos c25, if_neg c31, if_pos c56]) dX4_count_137
      ·
        refine lv_aload_n hx hb dX4_count_34 rfl (lv_at hl 0 rfl) ?_
        refine va_get (D := D) (ci := 4) (v := .int (s22 0 25)) (C := RX4) (T := TX4) (N := 29) hx hb hts in4 hown hK hP 0 (me_get (by omega) (mm_0 cy ad _)) rfl 25 (by decide) k78 (fun _ h9 => h9) rfl dX4_count_35 ?_
        refine lv_if_eq (tgt := 45) hx hb dX4_count_38 (by decide) (fun c38 => ?_) (fun c38 => ?_)
        ·
          refine lv_aload_n hx hb dX4_count_45 rfl (lv_at hl 0 rfl) ?_
          refine va_get (D := D) (ci := 4) (v := .int (s22 0 17)) (C := RX4) (T := TX4) (N := 29) hx hb hts in4 hown hK hP 0 (me_get (by omega) (mm_0 cy ad _)) rfl 17 (by decide) k57 (fun _ h9 => h9) rfl dX4_count_46 ?_
          refine lv_iconst (v := nI 1) hx hb dX4_count_49 (by decide) ?_
          refine lv_isub hx hb dX4_count_50 ?_
          refine lv_goto (tgt := 137) hx hb dX4_count_51 (by decide) ?_
          exact me_reti hx hb hr rfl hlocks hK hP hD hS (by simp only [m_count, e2, if_neg c13, e22, if_pos c25, if_pos c31, if_pos c38]) dX4_count_137
        ·
          refine lv_iconst (v := nI 0) hx hb dX4_count_41 (by decide) ?_
          refine lv_goto (tgt := 137) hx hb dX4_count_42 (by decide) ?_
          exact me_reti hx hb hr rfl hlocks hK hP hD hS (by simp only [m_count, e2, if_neg c13, e22, if_pos c25, if_pos c31, if_neg c38]) dX4_count_137
    ·
      refine lv_iconst (v := nI 0) hx hb dX4_count_28 (by decide) ?_
      exact me_reti hx hb hr rfl hlocks hK hP hD hS (by simp only [m_count, e2, if_neg c13, e22, if_neg c25]) dX4_count_29
  ·
    refine lv_iconst (v := nI 1) hx hb dX4_count_16 (by decide) ?_
    refine lv_goto (tgt := 21) hx hb dX4_count_17 (by decide) ?_
    refine lv_iconst (v := nI 1) hx hb dX4_count_21 (by decide) ?_
    refine me_calli (f := m_ref (nI 1) (nI 1) s2) (w := (mm_W cy ad xr)) (σ := s2) (As := [.int (nI 1), .int (nI 1)]) (rest := []) ⟨hx, hb, hml, hown, hts⟩ (fun sz => c_X4_refuses l D cy ad xr (nI 1) (nI 1) s2  sz) (cwV 2 hts gX4_count_X4_refuses rfl rfl rfl (by decide +kernel) ⟨Nat.le_of_ble_eq_true rfl, Nat.le_of_ble_eq_true rfl⟩) (va_recv hK hP (ci := 4) (q0 := 0) rfl (me_get (by omega) (mm_0 cy ad _))) hK hP hD hS hA rfl hl.1 rfl (Nat.le_of_ble_eq_true rfl) dX4_count_22 ⟨Nat.zero_le _, Nat.zero_le _⟩ (fun r22 s22 H locs e22 hP hD hS => ?_)
    refine lv_if_eq (tgt := 30) hx hb dX4_count_25 (by decide) (fun c25 => ?_) (fun c25 => ?_)
    ·
      refine lv_iload_n hx hb dX4_count_30 rfl (lv_at hl 1 rfl) ?_
      refine lv_if_ne (tgt := 54) hx hb dX4_count_31 (by decide) (fun c31 => ?_) (fun c31 => ?_)
      ·
        refine lv_iload_n hx hb dX4_count_54 rfl (lv_at hl 1 rfl) ?_
        refine lv_iconst (v := nI 1) hx hb dX4_count_55 (by decide) ?_
        refine lv_icmp_ne (tgt := 66) hx hb dX4_count_56 (by decide) (fun c56 => ?_) (fun c56 => ?_)
        ·
          refine lv_iload_n hx hb dX4_count_66 rfl (lv_at hl 1 rfl) ?_
          refine lv_iconst (v := nI 2) hx hb dX4_count_67 (by decide) ?_
          refine lv_icmp_ne (tgt := 78) hx hb dX4_count_68 (by decide) (fun c68 => ?_) (fun c68 => ?_)
          ·
            refine lv_iload_n hx hb dX4_count_78 rfl (lv_at hl 1 rfl) ?_
            refine lv_iconst (v := nI 3) hx hb dX4_count_79 (by decide) ?_
            refine lv_icmp_ne (tgt := 98) hx hb dX4_count_80 (by decide) (fun c80 => ?_) (fun c80 => ?_)
            ·
              refine lv_iload_n hx hb dX4_count_98 rfl (lv_at hl 1 rfl) ?_
              refine lv_iconst (v := nI 4) hx hb dX4_count_99 (by decide) ?_
              refine lv_icmp_ne (tgt := 110) hx hb dX4_count_100 (by decide) (fun c100 => ?_) (fun c100 => ?_)
              ·
                refine lv_iload_n hx hb dX4_count_110 rfl (lv_at hl 1 rfl) ?_
                refine lv_iconst (v := nI 5) hx hb dX4_count_111 (by decide) ?_
                refine lv_icmp_ne (tgt := 122) hx hb dX4_count_112 (by decide) (fun c112 => ?_) (fun c112 => ?_)
                ·
                  refine lv_aload_n hx hb dX4_count_122 rfl (lv_at hl 0 rfl) ?_
                  refine va_get (D := D) (ci := 4) (v := .int (s22 0 25)) (C := RX4) (T := TX4) (N := 29) hx hb hts in4 hown hK hP 0 (me_get (by omega) (mm_0 cy ad _)) rfl 25 (by decide) k78 (fun _ h9 => h9) rfl dX4_count_123 ?_
                  refine lv_if_eq (tgt := 133) hx hb dX4_count_126 (by decide) (fun c126 => ?_) (fun c126 => ?_)
                  ·
                    refine lv_aload_n hx hb dX4_count_133 rfl (lv_at hl 0 rfl) ?_
                    refine me_callr (f := m_room s22) (w := (mm_W cy ad xr)) (σ := s22) (As := []) (rest := []) ⟨hx, hb, hml, hown, hts⟩ (fun sz => c_X4_room l D cy ad xr  s22  sz) (cwV 0 hts gX4_count_X4_room rfl rfl rfl (by decide +kernel) ⟨Nat.le_of_ble_eq_true rfl, Nat.le_of_ble_eq_true rfl⟩) (va_recv hK hP (ci := 4) (q0 := 0) rfl (me_get (by omega) (mm_0 cy ad _))) hK hP hD hS hA rfl hl.1 rfl (Nat.le_of_ble_eq_true rfl) dX4_count_134 ⟨Nat.zero_le _, Nat.zero_le _⟩ (fun r134 H locs e134 hP hD hS => ?_)
                    exact me_reti hx hb hr rfl hlocks hK hP hD hS (by simp only [m_count, e2, if_pos c13, e22, if_pos c25, if_neg c31, if_neg c56, if_neg c68, if_neg c80, if_neg c100, if_neg c112, if_pos c126, e134]) dX4_count_137
                  ·
                    refine lv_iconst (v := nI 0) hx hb dX4_count_129 (by decide) ?_
                    refine lv_goto (tgt := 137) hx hb dX4_count_130 (by decide) ?_
                    exact me_reti hx hb hr rfl hlocks hK hP hD hS (by simp only [m_count, e2, if_pos c13, e22, if_pos c25, if_neg c31, if_neg c56, if_neg c68, if_neg c80, if_neg c100, if_neg c112, if_neg c126]) dX4_count_137
                ·
                  refine lv_aload_n hx hb dX4_count_115 rfl (lv_at hl 0 rfl) ?_
                  refine va_get (D := D) (ci := 4) (v := .int (s22 0 28)) (C := RX4) (T := TX4) (N := 29) hx hb hts in4 hown hK hP 0 (me_get (by omega) (mm_0 cy ad _)) rfl 28 (by decide) k144 (fun _ h9 => h9) rfl dX4_count_116 ?_
                  refine lv_goto (tgt := 137) hx hb dX4_count_119 (by decide) ?_
                  exact me_reti hx hb hr rfl hlocks hK hP hD hS (by simp only [m_count, e2, if_pos c13, e22, if_pos c25, if_neg c31, if_neg c56, if_neg c68, if_neg c80, if_neg c100, if_pos c112]) dX4_count_137
              ·
                refine lv_aload_n hx hb dX4_count_103 rfl (lv_at hl 0 rfl) ?_
                refine va_get (D := D) (ci := 4) (v := .int (s22 0 27)) (C := RX4) (T := TX4) (N := 29) hx hb hts in4 hown hK hP 0 (me_get (by omega) (mm_0 cy ad _)) rfl 27 (by decide) k106 (fun _ h9 => h9) rfl dX4_count_104 ?_
                refine lv_goto (tgt := 137) hx hb dX4_count_107 (by decide) ?_
                exact me_reti hx hb hr rfl hlocks hK hP hD hS (by simp only [m_count, e2, if_pos c13, e22, if_pos c25, if_neg c31, if_neg c56, if_neg c68, if_neg c80, if_pos c100]) dX4_count_137
            ·
              refine lv_aload_n hx hb dX4_count_83 rfl (lv_at hl 0 rfl) ?_
              refine va_get (D := D) (ci := 4) (v := .int (s22 0 25)) (C := RX4) (T := TX4) (N := 29) hx hb hts in4 hown hK hP 0 (me_get (by omega) (mm_0 cy ad _)) rfl 25 (by decide) k78 (fun _ h9 => h9) rfl dX4_count_84 ?_
              refine lv_if_eq (tgt := 94) hx hb dX4_count_87 (by decide) (fun c87 => ?_) (fun c87 => ?_)
              ·
                refine lv_iconst (v := nI 0) hx hb dX4_count_94 (by decide) ?_
                refine lv_goto (tgt := 137) hx hb dX4_count_95 (by decide) ?_
                exact me_reti hx hb hr rfl hlocks hK hP hD hS (by simp only [m_count, e2, if_pos c13, e22, if_pos c25, if_neg c31, if_neg c56, if_neg c68, if_pos c80, if_pos c87]) dX4_count_137
              ·
                refine lv_iconst (v := nI 1) hx hb dX4_count_90 (by decide) ?_
                refine lv_goto (tgt := 137) hx hb dX4_count_91 (by decide) ?_
                exact me_reti hx hb hr rfl hlocks hK hP hD hS (by simp only [m_count, e2, if_pos c13, e22, if_pos c25, if_neg c31, if_neg c56, if_neg c68, if_pos c80, if_neg c87]) dX4_count_137
          ·
            refine lv_aload_n hx hb dX4_count_71 rfl (lv_at hl 0 rfl) ?_
            refine va_get (D := D) (ci := 4) (v := .int (s22 0 26)) (C := RX4) (T := TX4) (N := 29) hx hb hts in4 hown hK hP 0 (me_get (by omega) (mm_0 cy ad _)) rfl 26 (by decide) k88 (fun _ h9 => h9) rfl dX4_count_72 ?_
            refine lv_goto (tgt := 137) hx hb dX4_count_75 (by decide) ?_
            exact me_reti hx hb hr rfl hlocks hK hP hD hS (by simp only [m_count, e2, if_pos c13, e22, if_pos c25, if_neg c31, if_neg c56, if_pos c68]) dX4_count_137
        ·
          refine lv_aload_n hx hb dX4_count_59 rfl (lv_at hl 0 rfl) ?_
          refine va_get (D := D) (ci := 4) (v := .int (s22 0 18)) (C := RX4) (T := TX4) (N := 29) hx hb hts in4 hown hK hP 0 (me_get (by omega) (mm_0 cy ad _)) rfl 18 (by decide) k82 (fun _ h9 => h9) rfl dX4_count_60 ?_
          refine lv_goto (tgt := 137) hx hb dX4_count_63 (by decide) ?_
          exact me_reti hx hb hr rfl hlocks hK hP hD hS (by simp only [m_count, e2, if_pos c13, e22, if_pos c25, if_neg c31, if_pos c56]) dX4_count_137
      ·
        refine lv_aload_n hx hb dX4_count_34 rfl (lv_at hl 0 rfl) ?_
        refine va_get (D := D) (ci := 4) (v := .int (s22 0 25)) (C := RX4) (T := TX4) (N := 29) hx hb hts in4 hown hK hP 0 (me_get (by omega) (mm_0 cy ad _)) rfl 25 (by decide) k78 (fun _ h9 => h9) rfl dX4_count_35 ?_
        refine lv_if_eq (tgt := 45) hx hb dX4_count_38 (by decide) (fun c38 => ?_) (fun c38 => ?_)
        ·
          refine lv_aload_n hx hb dX4_count_45 rfl (lv_at hl 0 rfl) ?_
          refine va_get (D := D) (ci := 4) (v := .int (s22 0 17)) (C := RX4) (T := TX4) (N := 29) hx hb hts in4 hown hK hP 0 (me_get (by omega) (mm_0 cy ad _)) rfl 17 (by decide) k57 (fun _ h9 => h9) rfl dX4_count_46 ?_
          refine lv_iconst (v := nI 1) hx hb dX4_count_49 (by decide) ?_
          refine lv_isub hx hb dX4_count_50 ?_
          refine lv_goto (tgt := 137) hx hb dX4_count_51 (by decide) ?_
          exact me_reti hx hb hr rfl hlocks hK hP hD hS (by simp only [m_count, e2, if_pos c13, e22, if_pos c25, if_pos c31, if_pos c38]) dX4_count_137
        ·
          refine lv_iconst (v := nI 0) hx hb dX4_count_41 (by decide) ?_
          refine lv_goto (tgt := 137) hx hb dX4_count_42 (by decide) ?_
          exact me_reti hx hb hr rfl hlocks hK hP hD hS (by simp only [m_count, e2, if_pos c13, e22, if_pos c25, if_pos c31, if_neg c38]) dX4_count_137
    ·
      refine lv_iconst (v := nI 0) hx hb dX4_count_28 (by decide) ?_
      exact me_reti hx hb hr rfl hlocks hK hP hD hS (by simp only [m_count, e2, if_pos c13, e22, if_neg c25]) dX4_count_29
