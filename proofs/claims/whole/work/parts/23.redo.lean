def k_mend_2 : Nat → Nat → me_M → Int32 × me_M
  | 0, i, s => (0, s)
  | n + 1, i, s => if nI 12 ≤ (nI i) then ((nI 1, s)) else (let r14 := k_whole i s; if r14 = 0 then (let r22 := k_sm (nI i) s; if r22 = (-1) then (k_mend_2 n  (i + 1) s) else (let q56 := k_wp i (nI i) (s (6 + 4 * (12 + r22.toNatClampNeg) + 2) 0) (6 + 4 * (12 + r22.toNatClampNeg) + 1) s; let r56 := q56.1; let s56 := q56.2; if r56 = 0 then ((nI 0, s56)) else (let s71 := me_st s56 0 8 ((s56 0 8) + (nI 1)); k_mend_2 n  (i + 1) s71))) else (k_mend_2 n  (i + 1) s))
def k_mend  (σ : me_M) : Int32 × me_M := k_mend_2 13  0 σ
set_option maxRecDepth 100000 in
set_option maxHeartbeats 4000000 in
theorem c_X3_mendHomes (l : Launch) (D : va_G) (cy : Nat → ClassId) (ad : Nat → Nat) (xr : va_W)  (σ : me_M)  (sz : Nat) : me_Ci l yX3_mendHomes wsX3_mendHomes ({ frames := 2, cells := 0, slots := 0, locals := 51 }) D (me_T cy) (kk_W cy ad xr) [.ref (ad 0)] sz σ (k_mend  σ) := by
  refine Met.ofW (cc := cX3_mendHomes) (maxL := 4) (ret := (some .boolean)) (by decide) rfl ?_
  intro p e st m args below meth c s₁ B hml hv
  obtain ⟨rfl, hsz, hP, hK, hD0⟩ := hv
  have hx := B.exec
  have hb := B.bytes
  have hr := B.returns
  have hts := atoms_spec (ws := wsX3_mendHomes) B.pre
  have hown : st.vm.findClass RX3 = some m.cls := findClass_of_methodNamed B.named
  have hlocks := B.notSynchronized
  have in2 : ∀ w ∈ u_ws RX2 TX2 3, w ∈ wsX3_mendHomes := by decide +kernel
  have in3 : ∀ w ∈ u_ws RX3 TX3 15, w ∈ wsX3_mendHomes := by decide +kernel
  have k11 := hts (.fieldLink RX3 11 "TwinWrites" "homes" "[LTwinWrites$Place;") (by decide +kernel)
  have k15 := hts (.fieldLink RX3 15 "TwinWrites" "slots" "[LTwinWrites$Place;") (by decide +kernel)
  have k41 := hts (.fieldLink RX3 41 "TwinWrites" "pagesMended" "I") (by decide +kernel)
  have k221 := hts (.fieldLink RX3 221 "TwinWrites$Place" "stamps" "[I") (by decide +kernel)
  have k224 := hts (.fieldLink RX3 224 "TwinWrites$Place" "words" "[I") (by decide +kernel)
  subst hsz
  have hD := hD0.self (sz := st.heap.size)
  have hA : ∀ q : Nat, st.heap.size ≤ q → va_A ((kk_W cy ad xr) σ) st.heap.size q := fun q h => Or.inr h
  have hS : va_S (va_A ((kk_W cy ad xr) σ) st.heap.size) st.heap st.heap [] := va_S.rf
  generalize va_A ((kk_W cy ad xr) σ) st.heap.size = A at hD hA hS ⊢
  have hl := lv_entry ([.ref (ad 0)]) (n := 4) (Nat.le_of_ble_eq_true rfl)
  rw [lg_entry_eq]
  generalize (lg_sl ([.ref (ad 0)]) ++ List.replicate (4 - (lg_sl ([.ref (ad 0)])).length) Slot.unset).toArray = ls at hl ⊢
  have hl : lv_has ls 4 [(0, .ref (ad 0))] := hl
  refine lv_iconst (v := nI 0) hx hb dX3_mendHomes_0 (by decide) ?_
  refine lv_istore_n (lv' := [(1, .int (nI 0)), (0, .ref (ad 0))]) hx hb dX3_mendHomes_1 rfl hl (by decide) rfl (fun ls hl => ?_)
  have J2 : ∀ (n : Nat) (i : Nat) (s : me_M) (H : Heap) (locs : List Loc) (hP : va_P D vwCl ((kk_W cy ad xr) s) H) (hD : va_D A ((kk_W cy ad xr) s)) (hS : va_S A st.heap H locs) (ls : Array Slot) (hl : lv_has ls 4 [(1, .int (nI i)), (0, .ref (ad 0))]), ∀ (hi : i ≤ 12), ∀ (hn : 13 ≤ i + n), k_mend  σ = k_mend_2 n  i s → W p l e (headSpec wsX3_mendHomes ({ frames := 2, cells := 0, slots := 0, locals := 51 })).room st m ([.ref (ad 0)] : List Value).toArray below meth c H locs 0 0 (MQ below (va_Qi (fun r σ' => (r, σ') = k_mend  σ) (me_B D (me_T cy) A (kk_W cy ad xr)) A) ([.ref (ad 0)] : List Value).toArray st 0 0 A) (F0 m 2 ls []) := by
    intro n
    induction n with
    | zero => intro i s H locs hP hD hS ls hl hi hn hf2; exfalso; omega
    | succ n ih =>
      intro i s H locs hP hD hS ls hl hi hn hf2
      refine lv_iload_n hx hb dX3_mendHomes_2 rfl (lv_at hl 0 rfl) ?_
      refine lv_bipush (v := nI 12) hx hb dX3_mendHomes_3 (by decide) ?_
      refine lv_icmp_ge (tgt := 80) hx hb dX3_mendHomes_5 (by decide) (fun c5 => ?_) (fun c5 => ?_)
      ·
        try have h5 := (nI_leI (by omega) (by omega)).mp c5
        refine lv_iconst (v := nI 1) hx hb dX3_mendHomes_80 (by decide) ?_
        exact me_reti hx hb hr rfl hlocks hK hP hD hS (by first | (rw [hf2]; simp only [k_mend_2, if_pos c5]; done) | contradiction) dX3_mendHomes_81
      ·
        try have h5 := (not_congr (nI_leI (by omega) (by omega))).mp c5
        refine lv_aload_n hx hb dX3_mendHomes_8 rfl (lv_at hl 1 rfl) ?_
        refine va_get (D := D) (ci := 3) (v := .ref (ad 1)) (C := RX3) (T := TX3) (N := 15) hx hb hts in3 hown hK hP 0 (me_get (by omega) (kk_0 cy ad _)) rfl 0 (by decide) k11 (fun _ h9 => h9) rfl dX3_mendHomes_9 ?_
        refine lv_iload_n hx hb dX3_mendHomes_12 rfl (lv_at hl 0 rfl) ?_
        refine me_aald (g := fun j => ad (6 + 4 * j)) hx hb hK hP 1 3 (by omega) (fun f => kk_a1 cy ad f) rfl i rfl (by omega) (by decide) dX3_mendHomes_13 ?_
        refine me_callr (f := k_whole i s) (w := (kk_W cy ad xr)) (σ := s) (As := []) (rest := []) ⟨hx, hb, hml, hown, hts⟩ (fun sz => c_X2_isWhole l D cy ad xr i s (by omega) sz) (cwV 0 hts gX3_mendHomes_X2_isWhole rfl rfl rfl (by decide +kernel) ⟨Nat.le_of_ble_eq_true rfl, Nat.le_of_ble_eq_true rfl⟩) (va_recv hK hP (ci := 2) (q0 := (6 + 4 * i)) rfl (me_get (by omega) (kk_pl cy ad (by omega) _))) hK hP hD hS hA rfl hl.1 rfl (Nat.le_of_ble_eq_true rfl) dX3_mendHomes_14 ⟨Nat.zero_le _, Nat.zero_le _⟩ (fun r14 H locs e14 hP hD hS => ?_)
        refine lv_if_ne (tgt := 74) hx hb dX3_mendHomes_17 (by decide) (fun c17 => ?_) (fun c17 => ?_)
        ·
          refine lv_iinc (v := nI (i + 1)) (lv' := [(1, .int (nI (i + 1))), (0, .ref (ad 0))]) hx hb dX3_mendHomes_74 hl (k := 0) rfl (me_inc _) (by decide) rfl (fun ls hl => ?_)
          refine lv_goto (tgt := 2) hx hb dX3_mendHomes_77 (by decide) ?_
          exact ih (i + 1) s _ _ hP hD hS ls (lv_sub hl [0, 1] rfl) (by omega) (by omega) (by rw [hf2]; simp only [k_mend_2, if_neg c5, e14, if_neg c17])
        ·
          refine lv_aload_n hx hb dX3_mendHomes_20 rfl (lv_at hl 1 rfl) ?_
          refine lv_iload_n hx hb dX3_mendHomes_21 rfl (lv_at hl 0 rfl) ?_
          refine me_callr (f := k_sm (nI i) s) (w := (kk_W cy ad xr)) (σ := s) (As := [.int (nI i)]) (rest := []) ⟨hx, hb, hml, hown, hts⟩ (fun sz => c_X3_slotToMendFrom l D cy ad xr (nI i) s  sz) (cwV 1 hts gX3_mendHomes_X3_slotToMendFrom rfl rfl rfl (by decide +kernel) ⟨Nat.le_of_ble_eq_true rfl, Nat.le_of_ble_eq_true rfl⟩) (va_recv hK hP (ci := 3) (q0 := 0) rfl (me_get (by omega) (kk_0 cy ad _))) hK hP hD hS hA rfl hl.1 rfl (Nat.le_of_ble_eq_true rfl) dX3_mendHomes_22 ⟨Nat.zero_le _, Nat.zero_le _⟩ (fun r22 H locs e22 hP hD hS => ?_)
          refine lv_istore_n (lv' := [(2, .int r22), (1, .int (nI i)), (0, .ref (ad 0))]) hx hb dX3_mendHomes_25 rfl hl (by decide) rfl (fun ls hl => ?_)
          refine lv_iload_n hx hb dX3_mendHomes_26 rfl (lv_at hl 0 rfl) ?_
          refine lv_iconst (v := (-1)) hx hb dX3_mendHomes_27 (by decide) ?_
          refine lv_icmp_eq (tgt := 74) hx hb dX3_mendHomes_28 (by decide) (fun c28 => ?_) (fun c28 => ?_)
          ·
            refine lv_iinc (v := nI (i + 1)) (lv' := [(1, .int (nI (i + 1))), (2, .int r22), (0, .ref (ad 0))]) hx hb dX3_mendHomes_74 hl (k := 1) rfl (me_inc _) (by decide) rfl (fun ls hl => ?_)
            refine lv_goto (tgt := 2) hx hb dX3_mendHomes_77 (by decide) ?_
            exact ih (i + 1) s _ _ hP hD hS ls (lv_sub hl [0, 2] rfl) (by omega) (by omega) (by rw [hf2]; simp only [k_mend_2, if_neg c5, e14, if_pos c17, e22, if_pos c28])
          ·
            refine lv_aload_n hx hb dX3_mendHomes_31 rfl (lv_at hl 2 rfl) ?_
            refine va_get (D := D) (ci := 3) (v := .ref (ad 2)) (C := RX3) (T := TX3) (N := 15) hx hb hts in3 hown hK hP 0 (me_get (by omega) (kk_0 cy ad _)) rfl 1 (by decide) k15 (fun _ h9 => h9) rfl dX3_mendHomes_32 ?_
            refine lv_iload_n hx hb dX3_mendHomes_35 rfl (lv_at hl 0 rfl) ?_
            have v36 : vp_in r22 4 := pu_sm_in e22 c28
            have b36 := me_inb v36
            refine me_aald (g := fun j => ad (6 + 4 * (12 + j))) hx hb hK hP 2 3 (by omega) (fun f => kk_a2 cy ad f) rfl r22.toNatClampNeg (me_ine v36) (by omega) (by decide) dX3_mendHomes_36 ?_
            refine lv_astore_n (lv' := [(3, .ref (ad (6 + 4 * (12 + r22.toNatClampNeg)))), (2, .int r22), (1, .int (nI i)), (0, .ref (ad 0))]) hx hb dX3_mendHomes_37 rfl hl (by decide) rfl (fun ls hl => ?_)
            refine lv_aload_n hx hb dX3_mendHomes_38 rfl (lv_at hl 3 rfl) ?_
            refine lv_aload_n hx hb dX3_mendHomes_39 rfl (lv_at hl 3 rfl) ?_
            refine va_get (D := D) (ci := 3) (v := .ref (ad 1)) (C := RX3) (T := TX3) (N := 15) hx hb hts in3 hown hK hP 0 (me_get (by omega) (kk_0 cy ad _)) rfl 0 (by decide) k11 (fun _ h9 => h9) rfl dX3_mendHomes_40 ?_
            refine lv_iload_n hx hb dX3_mendHomes_43 rfl (lv_at hl 2 rfl) ?_
            refine me_aald (g := fun j => ad (6 + 4 * j)) hx hb hK hP 1 3 (by omega) (fun f => kk_a1 cy ad f) rfl i rfl (by omega) (by decide) dX3_mendHomes_44 ?_
            refine lv_iload_n hx hb dX3_mendHomes_45 rfl (lv_at hl 2 rfl) ?_
            refine lv_aload_n hx hb dX3_mendHomes_46 rfl (lv_at hl 0 rfl) ?_
            refine va_get (D := D) (ci := 2) (v := .ref (ad (6 + 4 * (12 + r22.toNatClampNeg) + 2))) (C := RX2) (T := TX2) (N := 3) hx hb hts in2 hown hK hP (6 + 4 * (12 + r22.toNatClampNeg)) (me_get (by omega) (kk_pl cy ad (by omega) _)) rfl 1 (by decide) k221 (fun _ h9 => h9) rfl dX3_mendHomes_47 ?_
            refine lv_iconst (v := nI 0) hx hb dX3_mendHomes_50 (by decide) ?_
            refine me_iald hx hb hK hP (6 + 4 * (12 + r22.toNatClampNeg) + 2) 0 (by omega) (fun f => kk_4 cy ad (by omega) f) rfl 0 rfl (by omega) (by decide) dX3_mendHomes_51 ?_
            refine lv_aload_n hx hb dX3_mendHomes_52 rfl (lv_at hl 0 rfl) ?_
            refine va_get (D := D) (ci := 2) (v := .ref (ad (6 + 4 * (12 + r22.toNatClampNeg) + 1))) (C := RX2) (T := TX2) (N := 3) hx hb hts in2 hown hK hP (6 + 4 * (12 + r22.toNatClampNeg)) (me_get (by omega) (kk_pl cy ad (by omega) _)) rfl 0 (by decide) k224 (fun _ h9 => h9) rfl dX3_mendHomes_53 ?_
            refine me_calli (f := k_wp i (nI i) (s (6 + 4 * (12 + r22.toNatClampNeg) + 2) 0) (6 + 4 * (12 + r22.toNatClampNeg) + 1) s) (w := (kk_W cy ad xr)) (σ := s) (As := [.ref (ad (6 + 4 * i)), .int (nI i), .int (s (6 + 4 * (12 + r22.toNatClampNeg) + 2) 0), .ref (ad (6 + 4 * (12 + r22.toNatClampNeg) + 1))]) (rest := []) ⟨hx, hb, hml, hown, hts⟩ (fun sz => c_X3_writePage l D cy ad xr i (nI i) (s (6 + 4 * (12 + r22.toNatClampNeg) + 2) 0) (6 + 4 * (12 + r22.toNatClampNeg) + 1) s (by omega) (by omega) sz) (cwV 4 hts gX3_mendHomes_X3_writePage rfl rfl rfl (by decide +kernel) ⟨Nat.le_of_ble_eq_true rfl, Nat.le_of_ble_eq_true rfl⟩) (va_recv hK hP (ci := 3) (q0 := 0) rfl (me_get (by omega) (kk_0 cy ad _))) hK hP hD hS hA rfl hl.1 rfl (Nat.le_of_ble_eq_true rfl) dX3_mendHomes_56 ⟨Nat.zero_le _, Nat.zero_le _⟩ (fun r56 s56 H locs e56 hP hD hS => ?_)
            refine lv_if_ne (tgt := 64) hx hb dX3_mendHomes_59 (by decide) (fun c59 => ?_) (fun c59 => ?_)
            ·
              refine lv_aload_n hx hb dX3_mendHomes_64 rfl (lv_at hl 3 rfl) ?_
              refine lv_dup hx hb dX3_mendHomes_65 rfl ?_
              refine va_get (D := D) (ci := 3) (v := .int (s56 0 8)) (C := RX3) (T := TX3) (N := 15) hx hb hts in3 hown hK hP 0 (me_get (by omega) (kk_0 cy ad _)) rfl 8 (by decide) k41 (fun _ h9 => h9) rfl dX3_mendHomes_66 ?_
              refine lv_iconst (v := nI 1) hx hb dX3_mendHomes_69 (by decide) ?_
              refine lv_iadd hx hb dX3_mendHomes_70 ?_
              refine me_put (ty := .int) (ci := 3) (C := RX3) (T := TX3) (M := 15) hx hb hts in3 tyX3 tyX3_ok nmX3 hown hK hP hD hS 0 (by omega) (kk_0 cy ad _) rfl 8 (by decide) k41 (fun _ h9 => h9) rfl (by decide +kernel) rfl rfl (Nat.le_of_ble_eq_true rfl) (kk_0 cy ad _) dX3_mendHomes_71 (fun s71 H locs e71 hP hD hS => ?_)
              refine lv_iinc (v := nI (i + 1)) (lv' := [(1, .int (nI (i + 1))), (3, .ref (ad (6 + 4 * (12 + r22.toNatClampNeg)))), (2, .int r22), (0, .ref (ad 0))]) hx hb dX3_mendHomes_74 hl (k := 2) rfl (me_inc _) (by decide) rfl (fun ls hl => ?_)
              refine lv_goto (tgt := 2) hx hb dX3_mendHomes_77 (by decide) ?_
              exact ih (i + 1) s71 _ _ hP hD hS ls (lv_sub hl [0, 3] rfl) (by omega) (by omega) (by rw [hf2]; simp only [k_mend_2, if_neg c5, e14, if_pos c17, e22, if_neg c28, e56, if_neg c59, e71])
            ·
              refine lv_iconst (v := nI 0) hx hb dX3_mendHomes_62 (by decide) ?_
              exact me_reti hx hb hr rfl hlocks hK hP hD hS (by first | (rw [hf2]; simp only [k_mend_2, if_neg c5, e14, if_pos c17, e22, if_neg c28, e56, if_pos c59]; done) | contradiction) dX3_mendHomes_63
  exact J2 13 0 σ _ _ hP hD hS ls (lv_sub hl [0, 1] rfl) (by omega) (by omega) (by simp only [k_mend])

def k_redo_13 : Nat → Nat → Nat → me_M → Int32 × me_M
  | 0, u, i, s => (0, s)
  | n + 1, u, i, s => if nI u ≤ (nI i) then ((nI u, s)) else (if (s (70 + 2 * (i % 12)) 0) = nI i then (let q69 := k_br ((s (70 + 2 * (i % 12)) 1).toNatClampNeg) s; let r69 := q69.1; let s69 := q69.2; if r69 = (-3) then (((-3), s69)) else (if nI i ≤ (s69 (94 + 2 * r69.toNatClampNeg) 2) then (k_redo_13 n  u (i + 1) s69) else (let s102 := k_cw r69.toNatClampNeg ((s69 (70 + 2 * (i % 12)) 2).toNatClampNeg) (s69 (70 + 2 * (i % 12)) 3) (nI i) s69; k_redo_13 n  u (i + 1) s102))) else ((nI i, s)))
def k_redo  (σ : me_M) : Int32 × me_M := k_redo_13 13  ((σ 0 3).toNatClampNeg + 12) ((σ 0 3).toNatClampNeg) σ
set_option maxRecDepth 100000 in
set_option maxHeartbeats 4000000 in
theorem c_X3_redoLogged (l : Launch) (D : va_G) (cy : Nat → ClassId) (ad : Nat → Nat) (xr : va_W)  (σ : me_M) (hI : k_I σ) (sz : Nat) : me_Ci l yX3_redoLogged wsX3_redoLogged ({ frames := 5, cells := 0, slots := 0, locals := 123 }) D (me_T cy) (kk_W cy ad xr) [.ref (ad 0)] sz σ (k_redo  σ) := by
  refine Met.ofW (cc := cX3_redoLogged) (maxL := 5) (ret := (some .int)) (by decide) rfl ?_
  intro p e st m args below meth c s₁ B hml hv
  obtain ⟨rfl, hsz, hP, hK, hD0⟩ := hv
  have hx := B.exec
  have hb := B.bytes
  have hr := B.returns
  have hts := atoms_spec (ws := wsX3_redoLogged) B.pre
  have hown : st.vm.findClass RX3 = some m.cls := findClass_of_methodNamed B.named
  have hlocks := B.notSynchronized
  have in0 : ∀ w ∈ u_ws RX0 TX0 4, w ∈ wsX3_redoLogged := by decide +kernel
  have in1 : ∀ w ∈ u_ws RX1 TX1 5, w ∈ wsX3_redoLogged := by decide +kernel
  have in3 : ∀ w ∈ u_ws RX3 TX3 15, w ∈ wsX3_redoLogged := by decide +kernel
  have k20 := hts (.fieldLink RX3 20 "TwinWrites" "log" "[LTwinWrites$Change;") (by decide +kernel)
  have k24 := hts (.fieldLink RX3 24 "TwinWrites" "mark" "I") (by decide +kernel)
  have k181 := hts (.fieldLink RX3 181 "TwinWrites$Frame" "stamp" "I") (by decide +kernel)
  have k228 := hts (.fieldLink RX3 228 "TwinWrites$Change" "number" "I") (by decide +kernel)
  have k231 := hts (.fieldLink RX3 231 "TwinWrites$Change" "page" "I") (by decide +kernel)
  have k232 := hts (.fieldLink RX3 232 "TwinWrites$Change" "at" "I") (by decide +kernel)
  have k235 := hts (.fieldLink RX3 235 "TwinWrites$Change" "word" "I") (by decide +kernel)
  subst hsz
  have hD := hD0.self (sz := st.heap.size)
  have hA : ∀ q : Nat, st.heap.size ≤ q → va_A ((kk_W cy ad xr) σ) st.heap.size q := fun q h => Or.inr h
  have hS : va_S (va_A ((kk_W cy ad xr) σ) st.heap.size) st.heap st.heap [] := va_S.rf
  generalize va_A ((kk_W cy ad xr) σ) st.heap.size = A at hD hA hS ⊢
  have hl := lv_entry ([.ref (ad 0)]) (n := 5) (Nat.le_of_ble_eq_true rfl)
  rw [lg_entry_eq]
  generalize (lg_sl ([.ref (ad 0)]) ++ List.replicate (5 - (lg_sl ([.ref (ad 0)])).length) Slot.unset).toArray = ls at hl ⊢
  have hl : lv_has ls 5 [(0, .ref (ad 0))] := hl
  refine lv_aload_n hx hb dX3_redoLogged_0 rfl (lv_at hl 0 rfl) ?_
  refine va_get (D := D) (ci := 3) (v := .int (σ 0 3)) (C := RX3) (T := TX3) (N := 15) hx hb hts in3 hown hK hP 0 (me_get (by omega) (kk_0 cy ad _)) rfl 3 (by decide) k24 (fun _ h9 => h9) rfl dX3_redoLogged_1 ?_
  have b1 := me_inb hI.2.2.2.2.2
  refine me_top (me_ine hI.2.2.2.2.2) ?_
  refine lv_bipush (v := nI 12) hx hb dX3_redoLogged_4 (by decide) ?_
  refine lv_iadd hx hb dX3_redoLogged_6 ?_
  refine me_top (nI_add _ _) ?_
  refine lv_istore_n (lv' := [(1, .int (nI ((σ 0 3).toNatClampNeg + 12))), (0, .ref (ad 0))]) hx hb dX3_redoLogged_7 rfl hl (by decide) rfl (fun ls hl => ?_)
  refine lv_aload_n hx hb dX3_redoLogged_8 rfl (lv_at hl 1 rfl) ?_
  refine va_get (D := D) (ci := 3) (v := .int (σ 0 3)) (C := RX3) (T := TX3) (N := 15) hx hb hts in3 hown hK hP 0 (me_get (by omega) (kk_0 cy ad _)) rfl 3 (by decide) k24 (fun _ h9 => h9) rfl dX3_redoLogged_9 ?_
  refine me_top (me_ine hI.2.2.2.2.2) ?_
  refine lv_istore_n (lv' := [(2, .int (nI ((σ 0 3).toNatClampNeg))), (1, .int (nI ((σ 0 3).toNatClampNeg + 12))), (0, .ref (ad 0))]) hx hb dX3_redoLogged_12 rfl hl (by decide) rfl (fun ls hl => ?_)
  have J13 : ∀ (n : Nat) (u : Nat) (i : Nat) (s : me_M) (H : Heap) (locs : List Loc) (hP : va_P D vwCl ((kk_W cy ad xr) s) H) (hD : va_D A ((kk_W cy ad xr) s)) (hS : va_S A st.heap H locs) (ls : Array Slot) (hl : lv_has ls 5 [(2, .int (nI i)), (1, .int (nI u)), (0, .ref (ad 0))]), ∀ (hu : u < 200000), ∀ (hi : i ≤ u), ∀ (hn : u + 1 ≤ i + n), ∀ (hI : k_I s), k_redo  σ = k_redo_13 n  u i s → W p l e (headSpec wsX3_redoLogged ({ frames := 5, cells := 0, slots := 0, locals := 123 })).room st m ([.ref (ad 0)] : List Value).toArray below meth c H locs 0 0 (MQ below (va_Qi (fun r σ' => (r, σ') = k_redo  σ) (me_B D (me_T cy) A (kk_W cy ad xr)) A) ([.ref (ad 0)] : List Value).toArray st 0 0 A) (F0 m 13 ls []) := by
    intro n
    induction n with
    | zero => intro u i s H locs hP hD hS ls hl hu hi hn hI hf13; exfalso; omega
    | succ n ih =>
      intro u i s H locs hP hD hS ls hl hu hi hn hI hf13
      refine lv_iload_n hx hb dX3_redoLogged_13 rfl (lv_at hl 0 rfl) ?_
      refine lv_iload_n hx hb dX3_redoLogged_14 rfl (lv_at hl 1 rfl) ?_
      refine lv_icmp_ge (tgt := 111) hx hb dX3_redoLogged_15 (by decide) (fun c15 => ?_) (fun c15 => ?_)
      ·
        try have h15 := (nI_leI (by omega) (by omega)).mp c15
        refine lv_iload_n hx hb dX3_redoLogged_111 rfl (lv_at hl 1 rfl) ?_
        exact me_reti hx hb hr rfl hlocks hK hP hD hS (by first | (rw [hf13]; simp only [k_redo_13, if_pos c15]; done) | contradiction) dX3_redoLogged_112
      ·
        try have h15 := (not_congr (nI_leI (by omega) (by omega))).mp c15
        refine lv_aload_n hx hb dX3_redoLogged_18 rfl (lv_at hl 2 rfl) ?_
        refine va_get (D := D) (ci := 3) (v := .ref (ad 3)) (C := RX3) (T := TX3) (N := 15) hx hb hts in3 hown hK hP 0 (me_get (by omega) (kk_0 cy ad _)) rfl 2 (by decide) k20 (fun _ h9 => h9) rfl dX3_redoLogged_19 ?_
        refine lv_iload_n hx hb dX3_redoLogged_22 rfl (lv_at hl 0 rfl) ?_
        refine lv_bipush (v := nI 12) hx hb dX3_redoLogged_23 (by decide) ?_
        refine me_calls (As := [.int (nI i), .int (nI 12)]) (rest := [.ref (ad 3)]) ⟨hx, hb, hml, hown, hts⟩ (c_J9_floorMod_7cf53 l (nI i) (nI 12) (by decide)) (va_cwS 2 hts gX3_redoLogged_J9_floorMod_7cf53 rfl rfl rfl (by decide +kernel) ⟨Nat.le_of_ble_eq_true rfl, Nat.le_of_ble_eq_true rfl⟩) rfl hl.1 rfl (Nat.le_of_ble_eq_true rfl) dX3_redoLogged_25 ⟨Nat.zero_le _, Nat.zero_le _⟩ ?_
        refine me_top (pu_fm (by omega)) ?_
        refine me_aald (g := fun j => ad (70 + 2 * j)) hx hb hK hP 3 4 (by omega) (fun f => kk_a3 cy ad f) rfl (i % 12) rfl (by omega) (by decide) dX3_redoLogged_28 ?_
        refine lv_astore_n (lv' := [(3, .ref (ad (70 + 2 * (i % 12)))), (2, .int (nI i)), (1, .int (nI u)), (0, .ref (ad 0))]) hx hb dX3_redoLogged_29 rfl hl (by decide) rfl (fun ls hl => ?_)
        refine lv_aload_n hx hb dX3_redoLogged_30 rfl (lv_at hl 0 rfl) ?_
        refine va_get (D := D) (ci := 0) (v := .int (s (70 + 2 * (i % 12)) 0)) (C := RX0) (T := TX0) (N := 4) hx hb hts in0 hown hK hP (70 + 2 * (i % 12)) (me_get (by omega) (kk_ch cy ad (by omega) _)) rfl 0 (by decide) k228 (fun _ h9 => h9) rfl dX3_redoLogged_31 ?_
        refine lv_iload_n hx hb dX3_redoLogged_34 rfl (lv_at hl 1 rfl) ?_
        refine lv_icmp_ne (tgt := 62) hx hb dX3_redoLogged_35 (by decide) (fun c35 => ?_) (fun c35 => ?_)
        ·
          refine lv_iload_n hx hb dX3_redoLogged_62 rfl (lv_at hl 1 rfl) ?_
          exact me_reti hx hb hr rfl hlocks hK hP hD hS (by first | (rw [hf13]; simp only [k_redo_13, if_neg c15, if_neg c35]; done) | contradiction) dX3_redoLogged_63
        ·
          refine lv_aload_n hx hb dX3_redoLogged_38 rfl (lv_at hl 0 rfl) ?_
          refine va_get (D := D) (ci := 0) (v := .int (s (70 + 2 * (i % 12)) 1)) (C := RX0) (T := TX0) (N := 4) hx hb hts in0 hown hK hP (70 + 2 * (i % 12)) (me_get (by omega) (kk_ch cy ad (by omega) _)) rfl 1 (by decide) k231 (fun _ h9 => h9) rfl dX3_redoLogged_39 ?_
          refine lv_bipush (v := nI 12) hx hb dX3_redoLogged_42 (by decide) ?_
          refine me_calls (As := [.int (s (70 + 2 * (i % 12)) 1), .int (nI 12)]) (rest := []) ⟨hx, hb, hml, hown, hts⟩ (c_X3_isIn l (s (70 + 2 * (i % 12)) 1) (nI 12) ) (cwS 2 hts gX3_redoLogged_X3_isIn rfl rfl rfl (by decide +kernel) ⟨Nat.le_of_ble_eq_true rfl, Nat.le_of_ble_eq_true rfl⟩) rfl hl.1 rfl (Nat.le_of_ble_eq_true rfl) dX3_redoLogged_44 ⟨Nat.zero_le _, Nat.zero_le _⟩ ?_
          refine lv_if_eq (tgt := 62) hx hb dX3_redoLogged_47 (by decide) (fun c47 => ?_) (fun c47 => ?_)
          ·
            exact absurd c47 (pu_isIn1 (by decide) (hI.2.1 (70 + 2 * (i % 12)) (by omega) (by omega)).1)
          ·
            refine lv_aload_n hx hb dX3_redoLogged_50 rfl (lv_at hl 0 rfl) ?_
            refine va_get (D := D) (ci := 0) (v := .int (s (70 + 2 * (i % 12)) 2)) (C := RX0) (T := TX0) (N := 4) hx hb hts in0 hown hK hP (70 + 2 * (i % 12)) (me_get (by omega) (kk_ch cy ad (by omega) _)) rfl 2 (by decide) k232 (fun _ h9 => h9) rfl dX3_redoLogged_51 ?_
            refine lv_bipush (v := nI 16) hx hb dX3_redoLogged_54 (by decide) ?_
            refine me_calls (As := [.int (s (70 + 2 * (i % 12)) 2), .int (nI 16)]) (rest := []) ⟨hx, hb, hml, hown, hts⟩ (c_X3_isIn l (s (70 + 2 * (i % 12)) 2) (nI 16) ) (cwS 2 hts gX3_redoLogged_X3_isIn rfl rfl rfl (by decide +kernel) ⟨Nat.le_of_ble_eq_true rfl, Nat.le_of_ble_eq_true rfl⟩) rfl hl.1 rfl (Nat.le_of_ble_eq_true rfl) dX3_redoLogged_56 ⟨Nat.zero_le _, Nat.zero_le _⟩ ?_
            refine lv_if_ne (tgt := 64) hx hb dX3_redoLogged_59 (by decide) (fun c59 => ?_) (fun c59 => ?_)
            ·
              refine lv_aload_n hx hb dX3_redoLogged_64 rfl (lv_at hl 3 rfl) ?_
              refine lv_aload_n hx hb dX3_redoLogged_65 rfl (lv_at hl 0 rfl) ?_
              refine va_get (D := D) (ci := 0) (v := .int (s (70 + 2 * (i % 12)) 1)) (C := RX0) (T := TX0) (N := 4) hx hb hts in0 hown hK hP (70 + 2 * (i % 12)) (me_get (by omega) (kk_ch cy ad (by omega) _)) rfl 1 (by decide) k231 (fun _ h9 => h9) rfl dX3_redoLogged_66 ?_
              have v69_g : vp_in (s (70 + 2 * (i % 12)) 1) 12 := (hI.2.1 (70 + 2 * (i % 12)) (by omega) (by omega)).1
              have b69_g := me_inb v69_g
              have q69_g : (s (70 + 2 * (i % 12)) 1) = nI ((s (70 + 2 * (i % 12)) 1).toNatClampNeg) := me_ine v69_g
              refine me_callf (z := (-3)) (f := k_br ((s (70 + 2 * (i % 12)) 1).toNatClampNeg) s) (w := (kk_W cy ad xr)) (σ := s) (ad := ad) (As := [.int (s (70 + 2 * (i % 12)) 1)]) (rest := []) ⟨hx, hb, hml, hown, hts⟩ (fun sz => me_avf (av := [.ref (ad 0), .int (nI ((s (70 + 2 * (i % 12)) 1).toNatClampNeg))]) (by simp only [← q69_g]) (c_X3_bring l D cy ad xr ((s (70 + 2 * (i % 12)) 1).toNatClampNeg) s (by omega) (hI) sz)) (cwV 1 hts gX3_redoLogged_X3_bring rfl rfl rfl (by decide +kernel) ⟨Nat.le_of_ble_eq_true rfl, Nat.le_of_ble_eq_true rfl⟩) (va_recv hK hP (ci := 3) (q0 := 0) rfl (me_get (by omega) (kk_0 cy ad _))) hK hP hD hS hA rfl hl.1 rfl (Nat.le_of_ble_eq_true rfl) dX3_redoLogged_69 ⟨Nat.zero_le _, Nat.zero_le _⟩ (fun r69 s69 H locs e69 c69 hP hD hS => ?_) (fun r69 s69 H locs e69 c69 hP hD hS => ?_)
              ·
                have hJ := pu_br_I e69 b69_g hI
                refine lv_astoreN (lv' := [(4, .null), (3, .ref (ad (70 + 2 * (i % 12)))), (2, .int (nI i)), (1, .int (nI u)), (0, .ref (ad 0))]) hx hb dX3_redoLogged_72 hl (by decide) rfl (fun ls hl => ?_)
                refine lv_aloadN hx hb dX3_redoLogged_74 (lv_at hl 0 rfl) ?_
                refine lv_ifnonnullN hx hb dX3_redoLogged_76 ?_
                refine lv_bipush (v := (-3)) hx hb dX3_redoLogged_79 (by decide) ?_
                exact me_reti hx hb hr rfl hlocks hK hP hD hS (by first | (rw [hf13]; simp only [k_redo_13, if_neg c15, if_pos c35, e69, if_pos c69]; done) | contradiction) dX3_redoLogged_81
              ·
                have hJ := pu_br_I e69 b69_g hI
                have b70 := me_inb (pu_br_in e69 b69_g hI c69)
                refine lv_astore (lv' := [(4, .ref (ad (94 + 2 * r69.toNatClampNeg))), (3, .ref (ad (70 + 2 * (i % 12)))), (2, .int (nI i)), (1, .int (nI u)), (0, .ref (ad 0))]) hx hb dX3_redoLogged_72 hl (by decide) rfl (fun ls hl => ?_)
                refine lv_aload hx hb dX3_redoLogged_74 (lv_at hl 0 rfl) ?_
                refine lv_ifnonnull (tgt := 82) hx hb dX3_redoLogged_76 (by decide) ?_
                refine lv_aload hx hb dX3_redoLogged_82 (lv_at hl 0 rfl) ?_
                refine va_get (D := D) (ci := 1) (v := .int (s69 (94 + 2 * r69.toNatClampNeg) 2)) (C := RX1) (T := TX1) (N := 5) hx hb hts in1 hown hK hP (94 + 2 * r69.toNatClampNeg) (me_get (by omega) (kk_fr cy ad (by omega) _)) rfl 2 (by decide) k181 (fun _ h9 => h9) rfl dX3_redoLogged_84 ?_
                refine lv_iload_n hx hb dX3_redoLogged_87 rfl (lv_at hl 2 rfl) ?_
                refine lv_icmp_ge (tgt := 105) hx hb dX3_redoLogged_88 (by decide) (fun c88 => ?_) (fun c88 => ?_)
                ·
                  refine lv_iinc (v := nI (i + 1)) (lv' := [(2, .int (nI (i + 1))), (4, .ref (ad (94 + 2 * r69.toNatClampNeg))), (3, .ref (ad (70 + 2 * (i % 12)))), (1, .int (nI u)), (0, .ref (ad 0))]) hx hb dX3_redoLogged_105 hl (k := 2) rfl (me_inc _) (by decide) rfl (fun ls hl => ?_)
                  refine lv_goto (tgt := 13) hx hb dX3_redoLogged_108 (by decide) ?_
                  exact ih u (i + 1) s69 _ _ hP hD hS ls (lv_sub hl [0, 3, 4] rfl) (by omega) (by omega) (by omega) (by first | exact hJ | exact pu_cw_I e102 b70 hJ (by rw [pu_br_pg e69 b69_g hI c69]; exact vp_in_nI b69_g (by decide))) (by rw [hf13]; simp only [k_redo_13, if_neg c15, if_pos c35, e69, if_neg c69, if_pos c88])
                ·
                  refine lv_aload hx hb dX3_redoLogged_91 (lv_at hl 0 rfl) ?_
                  refine lv_aload_n hx hb dX3_redoLogged_93 rfl (lv_at hl 1 rfl) ?_
                  refine va_get (D := D) (ci := 0) (v := .int (s69 (70 + 2 * (i % 12)) 2)) (C := RX0) (T := TX0) (N := 4) hx hb hts in0 hown hK hP (70 + 2 * (i % 12)) (me_get (by omega) (kk_ch cy ad (by omega) _)) rfl 2 (by decide) k232 (fun _ h9 => h9) rfl dX3_redoLogged_94 ?_
                  refine lv_aload_n hx hb dX3_redoLogged_97 rfl (lv_at hl 1 rfl) ?_
                  refine va_get (D := D) (ci := 0) (v := .int (s69 (70 + 2 * (i % 12)) 3)) (C := RX0) (T := TX0) (N := 4) hx hb hts in0 hown hK hP (70 + 2 * (i % 12)) (me_get (by omega) (kk_ch cy ad (by omega) _)) rfl 3 (by decide) k235 (fun _ h9 => h9) rfl dX3_redoLogged_98 ?_
                  refine lv_iload_n hx hb dX3_redoLogged_101 rfl (lv_at hl 2 rfl) ?_
                  have v102_t : vp_in (s69 (70 + 2 * (i % 12)) 2) 16 := (hJ.2.1 (70 + 2 * (i % 12)) (by omega) (by omega)).2
                  have b102_t := me_inb v102_t
                  have q102_t : (s69 (70 + 2 * (i % 12)) 2) = nI ((s69 (70 + 2 * (i % 12)) 2).toNatClampNeg) := me_ine v102_t
                  refine me_callv (f := k_cw r69.toNatClampNeg ((s69 (70 + 2 * (i % 12)) 2).toNatClampNeg) (s69 (70 + 2 * (i % 12)) 3) (nI i) s69) (w := (kk_W cy ad xr)) (σ := s69) (As := [.int (s69 (70 + 2 * (i % 12)) 2), .int (s69 (70 + 2 * (i % 12)) 3), .int (nI i)]) (rest := []) ⟨hx, hb, hml, hown, hts⟩ (fun sz => me_avv (av := [.ref (ad (94 + 2 * r69.toNatClampNeg)), .int (nI ((s69 (70 + 2 * (i % 12)) 2).toNatClampNeg)), .int (s69 (70 + 2 * (i % 12)) 3), .int (nI i)]) (by simp only [← q102_t]) (c_X1_changeWord l D cy ad xr r69.toNatClampNeg ((s69 (70 + 2 * (i % 12)) 2).toNatClampNeg) (s69 (70 + 2 * (i % 12)) 3) (nI i) s69 (by omega) (by omega) sz)) (cwV 3 hts gX3_redoLogged_X1_changeWord rfl rfl rfl (by decide +kernel) ⟨Nat.le_of_ble_eq_true rfl, Nat.le_of_ble_eq_true rfl⟩) (va_recv hK hP (ci := 1) (q0 := (94 + 2 * r69.toNatClampNeg)) rfl (me_get (by omega) (kk_fr cy ad (by omega) _))) hK hP hD hS hA rfl hl.1 rfl (Nat.le_of_ble_eq_true rfl) dX3_redoLogged_102 ⟨Nat.zero_le _, Nat.zero_le _⟩ (fun s102 H locs e102 hP hD hS => ?_)
                  refine lv_iinc (v := nI (i + 1)) (lv' := [(2, .int (nI (i + 1))), (4, .ref (ad (94 + 2 * r69.toNatClampNeg))), (3, .ref (ad (70 + 2 * (i % 12)))), (1, .int (nI u)), (0, .ref (ad 0))]) hx hb dX3_redoLogged_105 hl (k := 2) rfl (me_inc _) (by decide) rfl (fun ls hl => ?_)
                  refine lv_goto (tgt := 13) hx hb dX3_redoLogged_108 (by decide) ?_
                  exact ih u (i + 1) s102 _ _ hP hD hS ls (lv_sub hl [0, 3, 4] rfl) (by omega) (by omega) (by omega) (by first | exact hJ | exact pu_cw_I e102 b70 hJ (by rw [pu_br_pg e69 b69_g hI c69]; exact vp_in_nI b69_g (by decide))) (by rw [hf13]; simp only [k_redo_13, if_neg c15, if_pos c35, e69, if_neg c69, if_neg c88, e102])
            ·
              exact absurd c59 (pu_isIn1 (by decide) (hI.2.1 (70 + 2 * (i % 12)) (by omega) (by omega)).2)
  exact J13 13 ((σ 0 3).toNatClampNeg + 12) ((σ 0 3).toNatClampNeg) σ _ _ hP hD hS ls (lv_sub hl [0, 1, 2] rfl) (by omega) (by omega) (by omega) (hI) (by simp only [k_redo])
