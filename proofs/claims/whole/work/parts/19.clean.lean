def k_cd_95 : Nat → Nat → Nat → Nat → Nat → me_M → Int32 × me_M
  | 0, a, b, z, i, s => (0, s)
  | n + 1, a, b, z, i, s => if nI b < (nI i) then (let s130 := me_st s 0 7 ((s 0 7) + (nI z)); (nI z, s130)) else (let s114 := me_st s (94 + 2 * i) 3 (nI 0); k_cd_95 n a b z (i + 1) s114)
def k_cd_17 : Nat → Nat → Nat → Nat → Nat → me_M → Int32 × me_M
  | 0, a, b, z, i, s => (0, s)
  | n + 1, a, b, z, i, s => if nI b < (nI i) then (let q88 := k_wdh a b s; let r88 := q88.1; let s88 := q88.2; if r88 = 0 then (((-3), s88)) else (k_cd_95 5 a b z a s88)) else (if (s (94 + 2 * i) 3) = 0 then (k_cd_17 n a b z (i + 1) s) else (let q67 := k_wp ((12 + z)) (s (94 + 2 * i) 1) (s (94 + 2 * i) 2) (94 + 2 * i + 1) s; let r67 := q67.1; let s67 := q67.2; if r67 = 0 then (((-3), s67)) else (k_cd_17 n a b (z + 1) (i + 1) s67)))
def k_cd (a : Nat) (b : Nat) (σ : me_M) : Int32 × me_M := let q1 := k_lw σ; let r1 := q1.1; let s1 := q1.2; if r1 = (-3) then (((-3), s1)) else (k_cd_17 5 a b 0 a s1)
set_option maxRecDepth 100000 in
set_option maxHeartbeats 4000000 in
theorem c_X3_cleanDirty (l : Launch) (D : va_G) (cy : Nat → ClassId) (ad : Nat → Nat) (xr : va_W) (a : Nat) (b : Nat) (σ : me_M) (hab : a ≤ b ∧ b < 4) (hI : k_I σ) (sz : Nat) : me_Ci l yX3_cleanDirty wsX3_cleanDirty ({ frames := 3, cells := 0, slots := 0, locals := 75 }) D (me_T cy) (kk_W cy ad xr) [.ref (ad 0), .int (nI a), .int (nI b)] sz σ (k_cd a b σ) := by
  refine Met.ofW (cc := cX3_cleanDirty) (maxL := 6) (ret := (some .int)) (by decide) rfl ?_
  intro p e st m args below meth c s₁ B hml hv
  obtain ⟨rfl, hsz, hP, hK, hD0⟩ := hv
  have hx := B.exec
  have hb := B.bytes
  have hr := B.returns
  have hts := atoms_spec (ws := wsX3_cleanDirty) B.pre
  have hown : st.vm.findClass RX3 = some m.cls := findClass_of_methodNamed B.named
  have hlocks := B.notSynchronized
  have in1 : ∀ w ∈ u_ws RX1 TX1 5, w ∈ wsX3_cleanDirty := by decide +kernel
  have in3 : ∀ w ∈ u_ws RX3 TX3 15, w ∈ wsX3_cleanDirty := by decide +kernel
  have k15 := hts (.fieldLink RX3 15 "TwinWrites" "slots" "[LTwinWrites$Place;") (by decide +kernel)
  have k38 := hts (.fieldLink RX3 38 "TwinWrites" "pagesCleaned" "I") (by decide +kernel)
  have k46 := hts (.fieldLink RX3 46 "TwinWrites" "frames" "[LTwinWrites$Frame;") (by decide +kernel)
  have k106 := hts (.fieldLink RX3 106 "TwinWrites$Frame" "words" "[I") (by decide +kernel)
  have k175 := hts (.fieldLink RX3 175 "TwinWrites$Frame" "dirty" "Z") (by decide +kernel)
  have k178 := hts (.fieldLink RX3 178 "TwinWrites$Frame" "page" "I") (by decide +kernel)
  have k181 := hts (.fieldLink RX3 181 "TwinWrites$Frame" "stamp" "I") (by decide +kernel)
  subst hsz
  have hD := hD0.self (sz := st.heap.size)
  have hA : ∀ q : Nat, st.heap.size ≤ q → va_A ((kk_W cy ad xr) σ) st.heap.size q := fun q h => Or.inr h
  have hS : va_S (va_A ((kk_W cy ad xr) σ) st.heap.size) st.heap st.heap [] := va_S.rf
  generalize va_A ((kk_W cy ad xr) σ) st.heap.size = A at hD hA hS ⊢
  have hl := lv_entry ([.ref (ad 0), .int (nI a), .int (nI b)]) (n := 6) (Nat.le_of_ble_eq_true rfl)
  rw [lg_entry_eq]
  generalize (lg_sl ([.ref (ad 0), .int (nI a), .int (nI b)]) ++ List.replicate (6 - (lg_sl ([.ref (ad 0), .int (nI a), .int (nI b)])).length) Slot.unset).toArray = ls at hl ⊢
  have hl : lv_has ls 6 [(0, .ref (ad 0)), (1, .int (nI a)), (2, .int (nI b))] := hl
  refine lv_aload_n hx hb dX3_cleanDirty_0 rfl (lv_at hl 0 rfl) ?_
  refine me_calli (f := k_lw σ) (w := (kk_W cy ad xr)) (σ := σ) (As := []) (rest := []) ⟨hx, hb, hml, hown, hts⟩ (fun sz => c_X3_logWaiting l D cy ad xr  σ (hI) sz) (cwV 0 hts gX3_cleanDirty_X3_logWaiting rfl rfl rfl (by decide +kernel) ⟨Nat.le_of_ble_eq_true rfl, Nat.le_of_ble_eq_true rfl⟩) (va_recv hK hP (ci := 3) (q0 := 0) rfl (me_get (by omega) (kk_0 cy ad _))) hK hP hD hS hA rfl hl.1 rfl (Nat.le_of_ble_eq_true rfl) dX3_cleanDirty_1 ⟨Nat.zero_le _, Nat.zero_le _⟩ (fun r1 s1 H locs e1 hP hD hS => ?_)
  refine lv_bipush (v := (-3)) hx hb dX3_cleanDirty_4 (by decide) ?_
  refine lv_icmp_ne (tgt := 12) hx hb dX3_cleanDirty_6 (by decide) (fun c6 => ?_) (fun c6 => ?_)
  ·
    refine lv_iconst (v := nI 0) hx hb dX3_cleanDirty_12 (by decide) ?_
    refine lv_istore_n (lv' := [(3, .int (nI 0)), (0, .ref (ad 0)), (1, .int (nI a)), (2, .int (nI b))]) hx hb dX3_cleanDirty_13 rfl hl (by decide) rfl (fun ls hl => ?_)
    refine lv_iload_n hx hb dX3_cleanDirty_14 rfl (lv_at hl 2 rfl) ?_
    refine lv_istore (lv' := [(4, .int (nI a)), (3, .int (nI 0)), (0, .ref (ad 0)), (1, .int (nI a)), (2, .int (nI b))]) hx hb dX3_cleanDirty_15 hl (by decide) rfl (fun ls hl => ?_)
    have J17 : ∀ (n : Nat) (z : Nat) (i : Nat) (s : me_M) (H : Heap) (locs : List Loc) (hP : va_P D vwCl ((kk_W cy ad xr) s) H) (hD : va_D A ((kk_W cy ad xr) s)) (hS : va_S A st.heap H locs) (ls : Array Slot) (hl : lv_has ls 6 [(4, .int (nI i)), (3, .int (nI z)), (0, .ref (ad 0)), (1, .int (nI a)), (2, .int (nI b))]), ∀ (hz : z + a ≤ i), ∀ (hi : a ≤ i ∧ i ≤ b + 1), ∀ (hn : b + 2 ≤ i + n), ∀ (hp : ∀ k, k < 4 → ¬ s (94 + 2 * k) 3 = 0 → vp_in (s (94 + 2 * k) 1) 12), k_cd a b σ = k_cd_17 n a b z i s → W p l e (headSpec wsX3_cleanDirty ({ frames := 3, cells := 0, slots := 0, locals := 75 })).room st m ([.ref (ad 0), .int (nI a), .int (nI b)] : List Value).toArray below meth c H locs 0 0 (MQ below (va_Qi (fun r σ' => (r, σ') = k_cd a b σ) (me_B D (me_T cy) A (kk_W cy ad xr)) A) ([.ref (ad 0), .int (nI a), .int (nI b)] : List Value).toArray st 0 0 A) (F0 m 17 ls []) := by
      intro n
      induction n with
      | zero => intro z i s H locs hP hD hS ls hl hz hi hn hp hf17; exfalso; omega
      | succ n ih =>
        intro z i s H locs hP hD hS ls hl hz hi hn hp hf17
        refine lv_iload hx hb dX3_cleanDirty_17 (lv_at hl 0 rfl) ?_
        refine lv_iload_n hx hb dX3_cleanDirty_19 rfl (lv_at hl 4 rfl) ?_
        refine lv_icmp_gt (tgt := 85) hx hb dX3_cleanDirty_20 (by decide) (fun c20 => ?_) (fun c20 => ?_)
        ·
          try have h20 := (nI_ltI (by omega) (by omega)).mp c20
          refine lv_aload_n hx hb dX3_cleanDirty_85 rfl (lv_at hl 2 rfl) ?_
          refine lv_iload_n hx hb dX3_cleanDirty_86 rfl (lv_at hl 3 rfl) ?_
          refine lv_iload_n hx hb dX3_cleanDirty_87 rfl (lv_at hl 4 rfl) ?_
          refine me_calli (f := k_wdh a b s) (w := (kk_W cy ad xr)) (σ := s) (As := [.int (nI a), .int (nI b)]) (rest := []) ⟨hx, hb, hml, hown, hts⟩ (fun sz => c_X3_writeDirtyHome l D cy ad xr a b s (by omega) (hp) sz) (cwV 2 hts gX3_cleanDirty_X3_writeDirtyHome rfl rfl rfl (by decide +kernel) ⟨Nat.le_of_ble_eq_true rfl, Nat.le_of_ble_eq_true rfl⟩) (va_recv hK hP (ci := 3) (q0 := 0) rfl (me_get (by omega) (kk_0 cy ad _))) hK hP hD hS hA rfl hl.1 rfl (Nat.le_of_ble_eq_true rfl) dX3_cleanDirty_88 ⟨Nat.zero_le _, Nat.zero_le _⟩ (fun r88 s88 H locs e88 hP hD hS => ?_)
          refine lv_if_ne (tgt := 97) hx hb dX3_cleanDirty_91 (by decide) (fun c91 => ?_) (fun c91 => ?_)
          ·
            refine lv_iload_n hx hb dX3_cleanDirty_97 rfl (lv_at hl 3 rfl) ?_
            refine lv_istore (lv' := [(4, .int (nI a)), (3, .int (nI z)), (0, .ref (ad 0)), (1, .int (nI a)), (2, .int (nI b))]) hx hb dX3_cleanDirty_98 hl (by decide) rfl (fun ls hl => ?_)
            have J100 : ∀ (n : Nat) (z : Nat) (i : Nat) (s : me_M) (H : Heap) (locs : List Loc) (hP : va_P D vwCl ((kk_W cy ad xr) s) H) (hD : va_D A ((kk_W cy ad xr) s)) (hS : va_S A st.heap H locs) (ls : Array Slot) (hl : lv_has ls 6 [(4, .int (nI i)), (3, .int (nI z)), (0, .ref (ad 0)), (1, .int (nI a)), (2, .int (nI b))]), ∀ (hi : a ≤ i ∧ i ≤ b + 1), ∀ (hn : b + 2 ≤ i + n), k_cd a b σ = k_cd_95 n a b z i s → W p l e (headSpec wsX3_cleanDirty ({ frames := 3, cells := 0, slots := 0, locals := 75 })).room st m ([.ref (ad 0), .int (nI a), .int (nI b)] : List Value).toArray below meth c H locs 0 0 (MQ below (va_Qi (fun r σ' => (r, σ') = k_cd a b σ) (me_B D (me_T cy) A (kk_W cy ad xr)) A) ([.ref (ad 0), .int (nI a), .int (nI b)] : List Value).toArray st 0 0 A) (F0 m 100 ls []) := by
              intro n
              induction n with
              | zero => intro z i s H locs hP hD hS ls hl hi hn hf100; exfalso; omega
              | succ n ih =>
                intro z i s H locs hP hD hS ls hl hi hn hf100
                refine lv_iload hx hb dX3_cleanDirty_100 (lv_at hl 0 rfl) ?_
                refine lv_iload_n hx hb dX3_cleanDirty_102 rfl (lv_at hl 4 rfl) ?_
                refine lv_icmp_gt (tgt := 123) hx hb dX3_cleanDirty_103 (by decide) (fun c103 => ?_) (fun c103 => ?_)
                ·
                  try have h103 := (nI_ltI (by omega) (by omega)).mp c103
                  refine lv_aload_n hx hb dX3_cleanDirty_123 rfl (lv_at hl 2 rfl) ?_
                  refine lv_dup hx hb dX3_cleanDirty_124 rfl ?_
                  refine va_get (D := D) (ci := 3) (v := .int (s 0 7)) (C := RX3) (T := TX3) (N := 15) hx hb hts in3 hown hK hP 0 (me_get (by omega) (kk_0 cy ad _)) rfl 7 (by decide) k38 (fun _ h9 => h9) rfl dX3_cleanDirty_125 ?_
                  refine lv_iload_n hx hb dX3_cleanDirty_128 rfl (lv_at hl 1 rfl) ?_
                  refine lv_iadd hx hb dX3_cleanDirty_129 ?_
                  refine me_put (ty := .int) (ci := 3) (C := RX3) (T := TX3) (M := 15) hx hb hts in3 tyX3 tyX3_ok nmX3 hown hK hP hD hS 0 (by omega) (kk_0 cy ad _) rfl 7 (by decide) k38 (fun _ h9 => h9) rfl (by decide +kernel) rfl rfl (Nat.le_of_ble_eq_true rfl) (kk_0 cy ad _) dX3_cleanDirty_130 (fun s130 H locs e130 hP hD hS => ?_)
                  refine lv_iload_n hx hb dX3_cleanDirty_133 rfl (lv_at hl 1 rfl) ?_
                  exact me_reti hx hb hr rfl hlocks hK hP hD hS (by first | (rw [hf100]; simp only [k_cd_95, if_pos c103, e130]; done) | contradiction) dX3_cleanDirty_134
                ·
                  try have h103 := (not_congr (nI_ltI (by omega) (by omega))).mp c103
                  refine lv_aload_n hx hb dX3_cleanDirty_106 rfl (lv_at hl 2 rfl) ?_
                  refine va_get (D := D) (ci := 3) (v := .ref (ad 4)) (C := RX3) (T := TX3) (N := 15) hx hb hts in3 hown hK hP 0 (me_get (by omega) (kk_0 cy ad _)) rfl 9 (by decide) k46 (fun _ h9 => h9) rfl dX3_cleanDirty_107 ?_
                  refine lv_iload hx hb dX3_cleanDirty_110 (lv_at hl 0 rfl) ?_
                  refine me_aald (g := fun j => ad (94 + 2 * j)) hx hb hK hP 4 5 (by omega) (fun f => kk_a4 cy ad f) rfl i rfl (by omega) (by decide) dX3_cleanDirty_112 ?_
                  refine lv_iconst (v := nI 0) hx hb dX3_cleanDirty_113 (by decide) ?_
                  refine me_put (ty := .boolean) (ci := 1) (C := RX1) (T := TX1) (M := 5) hx hb hts in1 tyX1 tyX1_ok nmX1 hown hK hP hD hS (94 + 2 * i) (by omega) (kk_fr cy ad (by omega) _) rfl 3 (by decide) k175 (fun _ h9 => h9) rfl (by decide +kernel) rfl rfl (Nat.le_of_ble_eq_true rfl) (kk_fr cy ad (by omega) _) dX3_cleanDirty_114 (fun s114 H locs e114 hP hD hS => ?_)
                  refine lv_iinc (v := nI (i + 1)) (lv' := [(4, .int (nI (i + 1))), (3, .int (nI z)), (0, .ref (ad 0)), (1, .int (nI a)), (2, .int (nI b))]) hx hb dX3_cleanDirty_117 hl (k := 0) rfl (me_inc _) (by decide) rfl (fun ls hl => ?_)
                  refine lv_goto (tgt := 100) hx hb dX3_cleanDirty_120 (by decide) ?_
                  exact ih z (i + 1) s114 _ _ hP hD hS ls (lv_sub hl [0, 1, 2, 3, 4] rfl) (by omega) (by omega) (by rw [hf100]; simp only [k_cd_95, if_neg c103, e114])
            exact J100 5 z a s88 _ _ hP hD hS ls (lv_sub hl [0, 1, 2, 3, 4] rfl) (by omega) (by omega) (by rw [hf17]; simp only [k_cd_17, if_pos c20, e88, if_neg c91])
          ·
            refine lv_bipush (v := (-3)) hx hb dX3_cleanDirty_94 (by decide) ?_
            exact me_reti hx hb hr rfl hlocks hK hP hD hS (by first | (rw [hf17]; simp only [k_cd_17, if_pos c20, e88, if_pos c91]; done) | contradiction) dX3_cleanDirty_96
        ·
          try have h20 := (not_congr (nI_ltI (by omega) (by omega))).mp c20
          refine lv_iload_n hx hb dX3_cleanDirty_23 rfl (lv_at hl 1 rfl) ?_
          refine lv_iconst (v := nI 4) hx hb dX3_cleanDirty_24 (by decide) ?_
          refine lv_icmp_ge (tgt := 85) hx hb dX3_cleanDirty_25 (by decide) (fun c25 => ?_) (fun c25 => ?_)
          ·
            try have h25 := (nI_leI (by omega) (by omega)).mp c25
            exact absurd h25 (by omega)
          ·
            try have h25 := (not_congr (nI_leI (by omega) (by omega))).mp c25
            refine lv_aload_n hx hb dX3_cleanDirty_28 rfl (lv_at hl 2 rfl) ?_
            refine va_get (D := D) (ci := 3) (v := .ref (ad 4)) (C := RX3) (T := TX3) (N := 15) hx hb hts in3 hown hK hP 0 (me_get (by omega) (kk_0 cy ad _)) rfl 9 (by decide) k46 (fun _ h9 => h9) rfl dX3_cleanDirty_29 ?_
            refine lv_iload hx hb dX3_cleanDirty_32 (lv_at hl 0 rfl) ?_
            refine me_aald (g := fun j => ad (94 + 2 * j)) hx hb hK hP 4 5 (by omega) (fun f => kk_a4 cy ad f) rfl i rfl (by omega) (by decide) dX3_cleanDirty_34 ?_
            refine lv_astore (lv' := [(5, .ref (ad (94 + 2 * i))), (4, .int (nI i)), (3, .int (nI z)), (0, .ref (ad 0)), (1, .int (nI a)), (2, .int (nI b))]) hx hb dX3_cleanDirty_35 hl (by decide) rfl (fun ls hl => ?_)
            refine lv_aload hx hb dX3_cleanDirty_37 (lv_at hl 0 rfl) ?_
            refine va_get (D := D) (ci := 1) (v := .int (s (94 + 2 * i) 3)) (C := RX1) (T := TX1) (N := 5) hx hb hts in1 hown hK hP (94 + 2 * i) (me_get (by omega) (kk_fr cy ad (by omega) _)) rfl 3 (by decide) k175 (fun _ h9 => h9) rfl dX3_cleanDirty_39 ?_
            refine lv_if_eq (tgt := 79) hx hb dX3_cleanDirty_42 (by decide) (fun c42 => ?_) (fun c42 => ?_)
            ·
              refine lv_iinc (v := nI (i + 1)) (lv' := [(4, .int (nI (i + 1))), (5, .ref (ad (94 + 2 * i))), (3, .int (nI z)), (0, .ref (ad 0)), (1, .int (nI a)), (2, .int (nI b))]) hx hb dX3_cleanDirty_79 hl (k := 1) rfl (me_inc _) (by decide) rfl (fun ls hl => ?_)
              refine lv_goto (tgt := 17) hx hb dX3_cleanDirty_82 (by decide) ?_
              exact ih z (i + 1) s _ _ hP hD hS ls (lv_sub hl [0, 2, 3, 4, 5] rfl) (by omega) (by omega) (by omega) (by first | exact hp | exact pu_wp_hp e67 (by omega) hp) (by rw [hf17]; simp only [k_cd_17, if_neg c20, if_pos c42])
            ·
              refine lv_aload_n hx hb dX3_cleanDirty_45 rfl (lv_at hl 3 rfl) ?_
              refine lv_aload_n hx hb dX3_cleanDirty_46 rfl (lv_at hl 3 rfl) ?_
              refine va_get (D := D) (ci := 3) (v := .ref (ad 2)) (C := RX3) (T := TX3) (N := 15) hx hb hts in3 hown hK hP 0 (me_get (by omega) (kk_0 cy ad _)) rfl 1 (by decide) k15 (fun _ h9 => h9) rfl dX3_cleanDirty_47 ?_
              refine lv_iload_n hx hb dX3_cleanDirty_50 rfl (lv_at hl 2 rfl) ?_
              refine me_aald (g := fun j => ad (6 + 4 * (12 + j))) hx hb hK hP 2 3 (by omega) (fun f => kk_a2 cy ad f) rfl z rfl (by omega) (by decide) dX3_cleanDirty_51 ?_
              refine lv_aload hx hb dX3_cleanDirty_52 (lv_at hl 0 rfl) ?_
              refine va_get (D := D) (ci := 1) (v := .int (s (94 + 2 * i) 1)) (C := RX1) (T := TX1) (N := 5) hx hb hts in1 hown hK hP (94 + 2 * i) (me_get (by omega) (kk_fr cy ad (by omega) _)) rfl 1 (by decide) k178 (fun _ h9 => h9) rfl dX3_cleanDirty_54 ?_
              refine lv_aload hx hb dX3_cleanDirty_57 (lv_at hl 0 rfl) ?_
              refine va_get (D := D) (ci := 1) (v := .int (s (94 + 2 * i) 2)) (C := RX1) (T := TX1) (N := 5) hx hb hts in1 hown hK hP (94 + 2 * i) (me_get (by omega) (kk_fr cy ad (by omega) _)) rfl 2 (by decide) k181 (fun _ h9 => h9) rfl dX3_cleanDirty_59 ?_
              refine lv_aload hx hb dX3_cleanDirty_62 (lv_at hl 0 rfl) ?_
              refine va_get (D := D) (ci := 1) (v := .ref (ad (94 + 2 * i + 1))) (C := RX1) (T := TX1) (N := 5) hx hb hts in1 hown hK hP (94 + 2 * i) (me_get (by omega) (kk_fr cy ad (by omega) _)) rfl 0 (by decide) k106 (fun _ h9 => h9) rfl dX3_cleanDirty_64 ?_
              refine me_calli (f := k_wp ((12 + z)) (s (94 + 2 * i) 1) (s (94 + 2 * i) 2) (94 + 2 * i + 1) s) (w := (kk_W cy ad xr)) (σ := s) (As := [.ref (ad (6 + 4 * (12 + z))), .int (s (94 + 2 * i) 1), .int (s (94 + 2 * i) 2), .ref (ad (94 + 2 * i + 1))]) (rest := []) ⟨hx, hb, hml, hown, hts⟩ (fun sz => c_X3_writePage l D cy ad xr ((12 + z)) (s (94 + 2 * i) 1) (s (94 + 2 * i) 2) (94 + 2 * i + 1) s (by omega) (by omega) sz) (cwV 4 hts gX3_cleanDirty_X3_writePage rfl rfl rfl (by decide +kernel) ⟨Nat.le_of_ble_eq_true rfl, Nat.le_of_ble_eq_true rfl⟩) (va_recv hK hP (ci := 3) (q0 := 0) rfl (me_get (by omega) (kk_0 cy ad _))) hK hP hD hS hA rfl hl.1 rfl (Nat.le_of_ble_eq_true rfl) dX3_cleanDirty_67 ⟨Nat.zero_le _, Nat.zero_le _⟩ (fun r67 s67 H locs e67 hP hD hS => ?_)
              refine lv_if_ne (tgt := 76) hx hb dX3_cleanDirty_70 (by decide) (fun c70 => ?_) (fun c70 => ?_)
              ·
                refine lv_iinc (v := nI (z + 1)) (lv' := [(3, .int (nI (z + 1))), (5, .ref (ad (94 + 2 * i))), (4, .int (nI i)), (0, .ref (ad 0)), (1, .int (nI a)), (2, .int (nI b))]) hx hb dX3_cleanDirty_76 hl (k := 2) rfl (me_inc _) (by decide) rfl (fun ls hl => ?_)
                refine lv_iinc (v := nI (i + 1)) (lv' := [(4, .int (nI (i + 1))), (3, .int (nI (z + 1))), (5, .ref (ad (94 + 2 * i))), (0, .ref (ad 0)), (1, .int (nI a)), (2, .int (nI b))]) hx hb dX3_cleanDirty_79 hl (k := 2) rfl (me_inc _) (by decide) rfl (fun ls hl => ?_)
                refine lv_goto (tgt := 17) hx hb dX3_cleanDirty_82 (by decide) ?_
                exact ih (z + 1) (i + 1) s67 _ _ hP hD hS ls (lv_sub hl [0, 1, 3, 4, 5] rfl) (by omega) (by omega) (by omega) (by first | exact hp | exact pu_wp_hp e67 (by omega) hp) (by rw [hf17]; simp only [k_cd_17, if_neg c20, if_neg c42, e67, if_neg c70])
              ·
                refine lv_bipush (v := (-3)) hx hb dX3_cleanDirty_73 (by decide) ?_
                exact me_reti hx hb hr rfl hlocks hK hP hD hS (by first | (rw [hf17]; simp only [k_cd_17, if_neg c20, if_neg c42, e67, if_pos c70]; done) | contradiction) dX3_cleanDirty_75
    exact J17 5 0 a s1 _ _ hP hD hS ls (lv_sub hl [0, 1, 2, 3, 4] rfl) (by omega) (by omega) (by omega) (pu_lw_hp e1 hI.1) (by simp only [k_cd, e1, if_neg c6])
  ·
    refine lv_bipush (v := (-3)) hx hb dX3_cleanDirty_9 (by decide) ?_
    exact me_reti hx hb hr rfl hlocks hK hP hD hS (by first | (simp only [k_cd, e1, if_pos c6]; done) | contradiction) dX3_cleanDirty_11

def k_cam  (σ : me_M) : Int32 × me_M := let q3 := k_cd 0 3 σ; let r3 := q3.1; let s3 := q3.2; if r3 = (-3) then (((-3), s3)) else (let q14 := k_ph s3; let r14 := q14.1; let s14 := q14.2; if r14 = 0 then (((-3), s14)) else (let s28 := me_st s14 0 3 (s14 0 12); (r3, s28)))
set_option maxRecDepth 100000 in
set_option maxHeartbeats 4000000 in
theorem c_X3_cleanAllAndMark (l : Launch) (D : va_G) (cy : Nat → ClassId) (ad : Nat → Nat) (xr : va_W)  (σ : me_M) (hI : k_I σ) (sz : Nat) : me_Ci l yX3_cleanAllAndMark wsX3_cleanAllAndMark ({ frames := 4, cells := 0, slots := 0, locals := 100 }) D (me_T cy) (kk_W cy ad xr) [.ref (ad 0)] sz σ (k_cam  σ) := by
  refine Met.ofW (cc := cX3_cleanAllAndMark) (maxL := 2) (ret := (some .int)) (by decide) rfl ?_
  intro p e st m args below meth c s₁ B hml hv
  obtain ⟨rfl, hsz, hP, hK, hD0⟩ := hv
  have hx := B.exec
  have hb := B.bytes
  have hr := B.returns
  have hts := atoms_spec (ws := wsX3_cleanAllAndMark) B.pre
  have hown : st.vm.findClass RX3 = some m.cls := findClass_of_methodNamed B.named
  have hlocks := B.notSynchronized
  have in3 : ∀ w ∈ u_ws RX3 TX3 15, w ∈ wsX3_cleanAllAndMark := by decide +kernel
  have k24 := hts (.fieldLink RX3 24 "TwinWrites" "mark" "I") (by decide +kernel)
  have k56 := hts (.fieldLink RX3 56 "TwinWrites" "nextNumber" "I") (by decide +kernel)
  subst hsz
  have hD := hD0.self (sz := st.heap.size)
  have hA : ∀ q : Nat, st.heap.size ≤ q → va_A ((kk_W cy ad xr) σ) st.heap.size q := fun q h => Or.inr h
  have hS : va_S (va_A ((kk_W cy ad xr) σ) st.heap.size) st.heap st.heap [] := va_S.rf
  generalize va_A ((kk_W cy ad xr) σ) st.heap.size = A at hD hA hS ⊢
  have hl := lv_entry ([.ref (ad 0)]) (n := 2) (Nat.le_of_ble_eq_true rfl)
  rw [lg_entry_eq]
  generalize (lg_sl ([.ref (ad 0)]) ++ List.replicate (2 - (lg_sl ([.ref (ad 0)])).length) Slot.unset).toArray = ls at hl ⊢
  have hl : lv_has ls 2 [(0, .ref (ad 0))] := hl
  refine lv_aload_n hx hb dX3_cleanAllAndMark_0 rfl (lv_at hl 0 rfl) ?_
  refine lv_iconst (v := nI 0) hx hb dX3_cleanAllAndMark_1 (by decide) ?_
  refine lv_iconst (v := nI 3) hx hb dX3_cleanAllAndMark_2 (by decide) ?_
  refine me_calli (f := k_cd 0 3 σ) (w := (kk_W cy ad xr)) (σ := σ) (As := [.int (nI 0), .int (nI 3)]) (rest := []) ⟨hx, hb, hml, hown, hts⟩ (fun sz => c_X3_cleanDirty l D cy ad xr 0 3 σ (by omega) (hI) sz) (cwV 2 hts gX3_cleanAllAndMark_X3_cleanDirty rfl rfl rfl (by decide +kernel) ⟨Nat.le_of_ble_eq_true rfl, Nat.le_of_ble_eq_true rfl⟩) (va_recv hK hP (ci := 3) (q0 := 0) rfl (me_get (by omega) (kk_0 cy ad _))) hK hP hD hS hA rfl hl.1 rfl (Nat.le_of_ble_eq_true rfl) dX3_cleanAllAndMark_3 ⟨Nat.zero_le _, Nat.zero_le _⟩ (fun r3 s3 H locs e3 hP hD hS => ?_)
  refine lv_istore_n (lv' := [(1, .int r3), (0, .ref (ad 0))]) hx hb dX3_cleanAllAndMark_6 rfl hl (by decide) rfl (fun ls hl => ?_)
  refine lv_iload_n hx hb dX3_cleanAllAndMark_7 rfl (lv_at hl 0 rfl) ?_
  refine lv_bipush (v := (-3)) hx hb dX3_cleanAllAndMark_8 (by decide) ?_
  refine lv_icmp_eq (tgt := 20) hx hb dX3_cleanAllAndMark_10 (by decide) (fun c10 => ?_) (fun c10 => ?_)
  ·
    refine lv_bipush (v := (-3)) hx hb dX3_cleanAllAndMark_20 (by decide) ?_
    exact me_reti hx hb hr rfl hlocks hK hP hD hS (by first | (simp only [k_cam, e3, if_pos c10]; done) | contradiction) dX3_cleanAllAndMark_22
  ·
    refine lv_aload_n hx hb dX3_cleanAllAndMark_13 rfl (lv_at hl 1 rfl) ?_
    refine me_calli (f := k_ph s3) (w := (kk_W cy ad xr)) (σ := s3) (As := []) (rest := []) ⟨hx, hb, hml, hown, hts⟩ (fun sz => c_X3_powerHolds l D cy ad xr  s3  sz) (cwV 0 hts gX3_cleanAllAndMark_X3_powerHolds rfl rfl rfl (by decide +kernel) ⟨Nat.le_of_ble_eq_true rfl, Nat.le_of_ble_eq_true rfl⟩) (va_recv hK hP (ci := 3) (q0 := 0) rfl (me_get (by omega) (kk_0 cy ad _))) hK hP hD hS hA rfl hl.1 rfl (Nat.le_of_ble_eq_true rfl) dX3_cleanAllAndMark_14 ⟨Nat.zero_le _, Nat.zero_le _⟩ (fun r14 s14 H locs e14 hP hD hS => ?_)
    refine lv_if_ne (tgt := 23) hx hb dX3_cleanAllAndMark_17 (by decide) (fun c17 => ?_) (fun c17 => ?_)
    ·
      refine lv_aload_n hx hb dX3_cleanAllAndMark_23 rfl (lv_at hl 1 rfl) ?_
      refine lv_aload_n hx hb dX3_cleanAllAndMark_24 rfl (lv_at hl 1 rfl) ?_
      refine va_get (D := D) (ci := 3) (v := .int (s14 0 12)) (C := RX3) (T := TX3) (N := 15) hx hb hts in3 hown hK hP 0 (me_get (by omega) (kk_0 cy ad _)) rfl 12 (by decide) k56 (fun _ h9 => h9) rfl dX3_cleanAllAndMark_25 ?_
      refine me_put (ty := .int) (ci := 3) (C := RX3) (T := TX3) (M := 15) hx hb hts in3 tyX3 tyX3_ok nmX3 hown hK hP hD hS 0 (by omega) (kk_0 cy ad _) rfl 3 (by decide) k24 (fun _ h9 => h9) rfl (by decide +kernel) rfl rfl (Nat.le_of_ble_eq_true rfl) (kk_0 cy ad _) dX3_cleanAllAndMark_28 (fun s28 H locs e28 hP hD hS => ?_)
      refine lv_iload_n hx hb dX3_cleanAllAndMark_31 rfl (lv_at hl 0 rfl) ?_
      exact me_reti hx hb hr rfl hlocks hK hP hD hS (by first | (simp only [k_cam, e3, if_neg c10, e14, if_neg c17, e28]; done) | contradiction) dX3_cleanAllAndMark_32
    ·
      refine lv_bipush (v := (-3)) hx hb dX3_cleanAllAndMark_20 (by decide) ?_
      exact me_reti hx hb hr rfl hlocks hK hP hD hS (by first | (simp only [k_cam, e3, if_neg c10, e14, if_pos c17]; done) | contradiction) dX3_cleanAllAndMark_22
