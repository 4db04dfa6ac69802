def k_wdh_2 : Nat → Nat → Nat → Nat → me_M → Int32 × me_M
  | 0, a, b, i, s => (0, s)
  | n + 1, a, b, i, s => if nI b < (nI i) then ((nI 1, s)) else (if (s (94 + 2 * i) 3) = 0 then (k_wdh_2 n a b (i + 1) s) else (let q62 := k_wp (((s (94 + 2 * i) 1).toNatClampNeg)) (s (94 + 2 * i) 1) (s (94 + 2 * i) 2) (94 + 2 * i + 1) s; let r62 := q62.1; let s62 := q62.2; if r62 = 0 then ((nI 0, s62)) else (k_wdh_2 n a b (i + 1) s62)))
def k_wdh (a : Nat) (b : Nat) (σ : me_M) : Int32 × me_M := k_wdh_2 5 a b a σ
set_option maxRecDepth 100000 in
set_option maxHeartbeats 4000000 in
theorem c_X3_writeDirtyHome (l : Launch) (D : va_G) (cy : Nat → ClassId) (ad : Nat → Nat) (xr : va_W) (a : Nat) (b : Nat) (σ : me_M) (hab : a ≤ b ∧ b < 4) (hp : ∀ k, k < 4 → ¬ σ (94 + 2 * k) 3 = 0 → vp_in (σ (94 + 2 * k) 1) 12) (sz : Nat) : me_Ci l yX3_writeDirtyHome wsX3_writeDirtyHome ({ frames := 2, cells := 0, slots := 0, locals := 51 }) D (me_T cy) (kk_W cy ad xr) [.ref (ad 0), .int (nI a), .int (nI b)] sz σ (k_wdh a b σ) := by
  refine Met.ofW (cc := cX3_writeDirtyHome) (maxL := 5) (ret := (some .boolean)) (by decide) rfl ?_
  intro p e st m args below meth c s₁ B hml hv
  obtain ⟨rfl, hsz, hP, hK, hD0⟩ := hv
  have hx := B.exec
  have hb := B.bytes
  have hr := B.returns
  have hts := atoms_spec (ws := wsX3_writeDirtyHome) B.pre
  have hown : st.vm.findClass RX3 = some m.cls := findClass_of_methodNamed B.named
  have hlocks := B.notSynchronized
  have in1 : ∀ w ∈ u_ws RX1 TX1 5, w ∈ wsX3_writeDirtyHome := by decide +kernel
  have in3 : ∀ w ∈ u_ws RX3 TX3 15, w ∈ wsX3_writeDirtyHome := by decide +kernel
  have k11 := hts (.fieldLink RX3 11 "TwinWrites" "homes" "[LTwinWrites$Place;") (by decide +kernel)
  have k46 := hts (.fieldLink RX3 46 "TwinWrites" "frames" "[LTwinWrites$Frame;") (by decide +kernel)
  have k106 := hts (.fieldLink RX3 106 "TwinWrites$Frame" "words" "[I") (by decide +kernel)
  have k175 := hts (.fieldLink RX3 175 "TwinWrites$Frame" "dirty" "Z") (by decide +kernel)
  have k178 := hts (.fieldLink RX3 178 "TwinWrites$Frame" "page" "I") (by decide +kernel)
  have k181 := hts (.fieldLink RX3 181 "TwinWrites$Frame" "stamp" "I") (by decide +kernel)
  subst hsz
  have hD := hD0.self (sz := st.heap.size)
  have hA : ∀ q : Nat, st.heap.size ≤ q → va_A ((kk_W cy ad xr) σ) st.heap.size q := fun q h => Or.inr h
  have hS : va_S (va_A ((kk_W cy ad xr) σ) st.heap.size) st.heap st.heap [] := va_S.rf
  generalize va_A ((kk_W cy ad xr) σ) st.heap.size = A at hD hA hS ⊢
  have hl := lv_entry ([.ref (ad 0), .int (nI a), .int (nI b)]) (n := 5) (Nat.le_of_ble_eq_true rfl)
  rw [lg_entry_eq]
  generalize (lg_sl ([.ref (ad 0), .int (nI a), .int (nI b)]) ++ List.replicate (5 - (lg_sl ([.ref (ad 0), .int (nI a), .int (nI b)])).length) Slot.unset).toArray = ls at hl ⊢
  have hl : lv_has ls 5 [(0, .ref (ad 0)), (1, .int (nI a)), (2, .int (nI b))] := hl
  refine lv_iload_n hx hb dX3_writeDirtyHome_0 rfl (lv_at hl 1 rfl) ?_
  refine lv_istore_n (lv' := [(3, .int (nI a)), (0, .ref (ad 0)), (1, .int (nI a)), (2, .int (nI b))]) hx hb dX3_writeDirtyHome_1 rfl hl (by decide) rfl (fun ls hl => ?_)
  have J2 : ∀ (n : Nat) (i : Nat) (s : me_M) (H : Heap) (locs : List Loc) (hP : va_P D vwCl ((kk_W cy ad xr) s) H) (hD : va_D A ((kk_W cy ad xr) s)) (hS : va_S A st.heap H locs) (ls : Array Slot) (hl : lv_has ls 5 [(3, .int (nI i)), (0, .ref (ad 0)), (1, .int (nI a)), (2, .int (nI b))]), ∀ (hi : a ≤ i ∧ i ≤ b + 1), ∀ (hn : b + 2 ≤ i + n), ∀ (hp : ∀ k, k < 4 → ¬ s (94 + 2 * k) 3 = 0 → vp_in (s (94 + 2 * k) 1) 12), k_wdh a b σ = k_wdh_2 n a b i s → W p l e (headSpec wsX3_writeDirtyHome ({ frames := 2, cells := 0, slots := 0, locals := 51 })).room st m ([.ref (ad 0), .int (nI a), .int (nI b)] : List Value).toArray below meth c H locs 0 0 (MQ below (va_Qi (fun r σ' => (r, σ') = k_wdh a b σ) (me_B D (me_T cy) A (kk_W cy ad xr)) A) ([.ref (ad 0), .int (nI a), .int (nI b)] : List Value).toArray st 0 0 A) (F0 m 2 ls []) := by
    intro n
    induction n with
    | zero => intro i s H locs hP hD hS ls hl hi hn hp hf2; exfalso; omega
    | succ n ih =>
      intro i s H locs hP hD hS ls hl hi hn hp hf2
      refine lv_iload_n hx hb dX3_writeDirtyHome_2 rfl (lv_at hl 0 rfl) ?_
      refine lv_iload_n hx hb dX3_writeDirtyHome_3 rfl (lv_at hl 3 rfl) ?_
      refine lv_icmp_gt (tgt := 76) hx hb dX3_writeDirtyHome_4 (by decide) (fun c4 => ?_) (fun c4 => ?_)
      ·
        try have h4 := (nI_ltI (by omega) (by omega)).mp c4
        refine lv_iconst (v := nI 1) hx hb dX3_writeDirtyHome_76 (by decide) ?_
        exact me_reti hx hb hr rfl hlocks hK hP hD hS (by first | (rw [hf2]; simp only [k_wdh_2, if_pos c4]; done) | contradiction) dX3_writeDirtyHome_77
      ·
        try have h4 := (not_congr (nI_ltI (by omega) (by omega))).mp c4
        refine lv_aload_n hx hb dX3_writeDirtyHome_7 rfl (lv_at hl 1 rfl) ?_
        refine va_get (D := D) (ci := 3) (v := .ref (ad 4)) (C := RX3) (T := TX3) (N := 15) hx hb hts in3 hown hK hP 0 (me_get (by omega) (kk_0 cy ad _)) rfl 9 (by decide) k46 (fun _ h9 => h9) rfl dX3_writeDirtyHome_8 ?_
        refine lv_iload_n hx hb dX3_writeDirtyHome_11 rfl (lv_at hl 0 rfl) ?_
        refine me_aald (g := fun j => ad (94 + 2 * j)) hx hb hK hP 4 5 (by omega) (fun f => kk_a4 cy ad f) rfl i rfl (by omega) (by decide) dX3_writeDirtyHome_12 ?_
        refine lv_astore (lv' := [(4, .ref (ad (94 + 2 * i))), (3, .int (nI i)), (0, .ref (ad 0)), (1, .int (nI a)), (2, .int (nI b))]) hx hb dX3_writeDirtyHome_13 hl (by decide) rfl (fun ls hl => ?_)
        refine lv_aload hx hb dX3_writeDirtyHome_15 (lv_at hl 0 rfl) ?_
        refine va_get (D := D) (ci := 1) (v := .int (s (94 + 2 * i) 3)) (C := RX1) (T := TX1) (N := 5) hx hb hts in1 hown hK hP (94 + 2 * i) (me_get (by omega) (kk_fr cy ad (by omega) _)) rfl 3 (by decide) k175 (fun _ h9 => h9) rfl dX3_writeDirtyHome_17 ?_
        refine lv_if_eq (tgt := 70) hx hb dX3_writeDirtyHome_20 (by decide) (fun c20 => ?_) (fun c20 => ?_)
        ·
          refine lv_iinc (v := nI (i + 1)) (lv' := [(3, .int (nI (i + 1))), (4, .ref (ad (94 + 2 * i))), (0, .ref (ad 0)), (1, .int (nI a)), (2, .int (nI b))]) hx hb dX3_writeDirtyHome_70 hl (k := 1) rfl (me_inc _) (by decide) rfl (fun ls hl => ?_)
          refine lv_goto (tgt := 2) hx hb dX3_writeDirtyHome_73 (by decide) ?_
          exact ih (i + 1) s _ _ hP hD hS ls (lv_sub hl [0, 2, 3, 4] rfl) (by omega) (by omega) (by first | exact hp | exact pu_wp_hp e62 (by omega) hp) (by rw [hf2]; simp only [k_wdh_2, if_neg c4, if_pos c20])
        ·
          refine lv_aload hx hb dX3_writeDirtyHome_23 (lv_at hl 0 rfl) ?_
          refine va_get (D := D) (ci := 1) (v := .int (s (94 + 2 * i) 1)) (C := RX1) (T := TX1) (N := 5) hx hb hts in1 hown hK hP (94 + 2 * i) (me_get (by omega) (kk_fr cy ad (by omega) _)) rfl 1 (by decide) k178 (fun _ h9 => h9) rfl dX3_writeDirtyHome_25 ?_
          refine lv_bipush (v := nI 12) hx hb dX3_writeDirtyHome_28 (by decide) ?_
          refine me_calls (As := [.int (s (94 + 2 * i) 1), .int (nI 12)]) (rest := []) ⟨hx, hb, hml, hown, hts⟩ (c_X3_isIn l (s (94 + 2 * i) 1) (nI 12) ) (cwS 2 hts gX3_writeDirtyHome_X3_isIn rfl rfl rfl (by decide +kernel) ⟨Nat.le_of_ble_eq_true rfl, Nat.le_of_ble_eq_true rfl⟩) rfl hl.1 rfl (Nat.le_of_ble_eq_true rfl) dX3_writeDirtyHome_30 ⟨Nat.zero_le _, Nat.zero_le _⟩ ?_
          refine lv_if_eq (tgt := 70) hx hb dX3_writeDirtyHome_33 (by decide) (fun c33 => ?_) (fun c33 => ?_)
          ·
            exact absurd c33 (pu_isIn1 (by decide) (hp i (by omega) c20))
          ·
            refine lv_aload_n hx hb dX3_writeDirtyHome_36 rfl (lv_at hl 2 rfl) ?_
            refine lv_aload_n hx hb dX3_writeDirtyHome_37 rfl (lv_at hl 2 rfl) ?_
            refine va_get (D := D) (ci := 3) (v := .ref (ad 1)) (C := RX3) (T := TX3) (N := 15) hx hb hts in3 hown hK hP 0 (me_get (by omega) (kk_0 cy ad _)) rfl 0 (by decide) k11 (fun _ h9 => h9) rfl dX3_writeDirtyHome_38 ?_
            refine lv_aload hx hb dX3_writeDirtyHome_41 (lv_at hl 0 rfl) ?_
            refine va_get (D := D) (ci := 1) (v := .int (s (94 + 2 * i) 1)) (C := RX1) (T := TX1) (N := 5) hx hb hts in1 hown hK hP (94 + 2 * i) (me_get (by omega) (kk_fr cy ad (by omega) _)) rfl 1 (by decide) k178 (fun _ h9 => h9) rfl dX3_writeDirtyHome_43 ?_
            have v46 : vp_in (s (94 + 2 * i) 1) 12 := hp i (by omega) c20
            have b46 := me_inb v46
            refine me_aald (g := fun j => ad (6 + 4 * j)) hx hb hK hP 1 3 (by omega) (fun f => kk_a1 cy ad f) rfl ((s (94 + 2 * i) 1).toNatClampNeg) (me_ine v46) (by omega) (by decide) dX3_writeDirtyHome_46 ?_
            refine lv_aload hx hb dX3_writeDirtyHome_47 (lv_at hl 0 rfl) ?_
            refine va_get (D := D) (ci := 1) (v := .int (s (94 + 2 * i) 1)) (C := RX1) (T := TX1) (N := 5) hx hb hts in1 hown hK hP (94 + 2 * i) (me_get (by omega) (kk_fr cy ad (by omega) _)) rfl 1 (by decide) k178 (fun _ h9 => h9) rfl dX3_writeDirtyHome_49 ?_
            refine lv_aload hx hb dX3_writeDirtyHome_52 (lv_at hl 0 rfl) ?_
            refine va_get (D := D) (ci := 1) (v := .int (s (94 + 2 * i) 2)) (C := RX1) (T := TX1) (N := 5) hx hb hts in1 hown hK hP (94 + 2 * i) (me_get (by omega) (kk_fr cy ad (by omega) _)) rfl 2 (by decide) k181 (fun _ h9 => h9) rfl dX3_writeDirtyHome_54 ?_
            refine lv_aload hx hb dX3_writeDirtyHome_57 (lv_at hl 0 rfl) ?_
            refine va_get (D := D) (ci := 1) (v := .ref (ad (94 + 2 * i + 1))) (C := RX1) (T := TX1) (N := 5) hx hb hts in1 hown hK hP (94 + 2 * i) (me_get (by omega) (kk_fr cy ad (by omega) _)) rfl 0 (by decide) k106 (fun _ h9 => h9) rfl dX3_writeDirtyHome_59 ?_
            refine me_calli (f := k_wp (((s (94 + 2 * i) 1).toNatClampNeg)) (s (94 + 2 * i) 1) (s (94 + 2 * i) 2) (94 + 2 * i + 1) s) (w := (kk_W cy ad xr)) (σ := s) (As := [.ref (ad (6 + 4 * ((s (94 + 2 * i) 1).toNatClampNeg))), .int (s (94 + 2 * i) 1), .int (s (94 + 2 * i) 2), .ref (ad (94 + 2 * i + 1))]) (rest := []) ⟨hx, hb, hml, hown, hts⟩ (fun sz => c_X3_writePage l D cy ad xr (((s (94 + 2 * i) 1).toNatClampNeg)) (s (94 + 2 * i) 1) (s (94 + 2 * i) 2) (94 + 2 * i + 1) s (by omega) (by omega) sz) (cwV 4 hts gX3_writeDirtyHome_X3_writePage rfl rfl rfl (by decide +kernel) ⟨Nat.le_of_ble_eq_true rfl, Nat.le_of_ble_eq_true rfl⟩) (va_recv hK hP (ci := 3) (q0 := 0) rfl (me_get (by omega) (kk_0 cy ad _))) hK hP hD hS hA rfl hl.1 rfl (Nat.le_of_ble_eq_true rfl) dX3_writeDirtyHome_62 ⟨Nat.zero_le _, Nat.zero_le _⟩ (fun r62 s62 H locs e62 hP hD hS => ?_)
            refine lv_if_ne (tgt := 70) hx hb dX3_writeDirtyHome_65 (by decide) (fun c65 => ?_) (fun c65 => ?_)
            ·
              refine lv_iinc (v := nI (i + 1)) (lv' := [(3, .int (nI (i + 1))), (4, .ref (ad (94 + 2 * i))), (0, .ref (ad 0)), (1, .int (nI a)), (2, .int (nI b))]) hx hb dX3_writeDirtyHome_70 hl (k := 1) rfl (me_inc _) (by decide) rfl (fun ls hl => ?_)
              refine lv_goto (tgt := 2) hx hb dX3_writeDirtyHome_73 (by decide) ?_
              exact ih (i + 1) s62 _ _ hP hD hS ls (lv_sub hl [0, 2, 3, 4] rfl) (by omega) (by omega) (by first | exact hp | exact pu_wp_hp e62 (by omega) hp) (by rw [hf2]; simp only [k_wdh_2, if_neg c4, if_neg c20, e62, if_neg c65])
            ·
              refine lv_iconst (v := nI 0) hx hb dX3_writeDirtyHome_68 (by decide) ?_
              exact me_reti hx hb hr rfl hlocks hK hP hD hS (by first | (rw [hf2]; simp only [k_wdh_2, if_neg c4, if_neg c20, e62, if_pos c65]; done) | contradiction) dX3_writeDirtyHome_69
  exact J2 5 a σ _ _ hP hD hS ls (lv_sub hl [0, 1, 2, 3] rfl) (by omega) (by omega) (hp) (by simp only [k_wdh])
