def m_mend_23 : Nat → Nat → Int32 → Nat → me_M → Int32
  | 0, i, v, t, s => (0)
  | n + 1, i, v, t, s => if nI 4 ≤ (nI t) then ((v)) else (let r30 := m_isw t s; if r30 = 0 then (if (nI 0) = 0 then (m_mend_23 n  i v (t + 1) s) else (if v = (-1) then (m_mend_23 n  i (nI t) (t + 1) s) else (if (s 3 (4 * t)) ≤ s 3 (4 * v.toNatClampNeg) then (m_mend_23 n  i v (t + 1) s) else (m_mend_23 n  i (nI t) (t + 1) s)))) else (if (s 4 (4 * t)) = nI i then (if (nI 1) = 0 then (m_mend_23 n  i v (t + 1) s) else (if v = (-1) then (m_mend_23 n  i (nI t) (t + 1) s) else (if (s 3 (4 * t)) ≤ s 3 (4 * v.toNatClampNeg) then (m_mend_23 n  i v (t + 1) s) else (m_mend_23 n  i (nI t) (t + 1) s)))) else (if (nI 0) = 0 then (m_mend_23 n  i v (t + 1) s) else (if v = (-1) then (m_mend_23 n  i (nI t) (t + 1) s) else (if (s 3 (4 * t)) ≤ s 3 (4 * v.toNatClampNeg) then (m_mend_23 n  i v (t + 1) s) else (m_mend_23 n  i (nI t) (t + 1) s))))))
def m_mend_2 : Nat → Nat → me_M → Int32 × me_M
  | 0, i, s => (0, s)
  | n + 1, i, s => if nI 12 ≤ (nI i) then ((nI 1, s)) else (let r10 := m_ihw i s; if r10 = 0 then (let v23 := m_mend_23 5  i ((-1)) 0 s; if v23 = (-1) then (m_mend_2 n  (i + 1) s) else (let q116 := m_wh i (s 3 (4 * v23.toNatClampNeg)) v23.toNatClampNeg (nI 0) s; let r116 := q116.1; let s116 := q116.2; if r116 = 0 then ((nI 0, s116)) else (let s131 := me_st s116 0 28 ((s116 0 28) + (nI 1)); m_mend_2 n  (i + 1) s131))) else (m_mend_2 n  (i + 1) s))
def m_mend  (σ : me_M) : Int32 × me_M := m_mend_2 13  0 σ
set_option maxRecDepth 100000 in
set_option maxHeartbeats 4000000 in
theorem c_X4_mend (l : Launch) (D : va_G) (cy : Nat → ClassId) (ad : Nat → Nat) (xr : va_W)  (σ : me_M) (hI : m_I σ) (sz : Nat) : me_Ci l yX4_mend wsX4_mend ({ frames := 3, cells := 0, slots := 0, locals := 67 }) D (me_T cy) (mm_W cy ad xr) [.ref (ad 0)] sz σ (m_mend  σ) := by
  refine Met.ofW (cc := cX4_mend) (maxL := 5) (ret := (some .boolean)) (by decide) rfl ?_
  intro p e st m args below meth c s₁ B hml hv
  obtain ⟨rfl, hsz, hP, hK, hD0⟩ := hv
  have hx := B.exec
  have hb := B.bytes
  have hr := B.returns
  have hts := atoms_spec (ws := wsX4_mend) B.pre
  have hown : st.vm.findClass RX4 = some m.cls := findClass_of_methodNamed B.named
  have hlocks := B.notSynchronized
  have in4 : ∀ w ∈ u_ws RX4 TX4 29, w ∈ wsX4_mend := by decide +kernel
  have k16 := hts (.fieldLink RX4 16 "TwinWritesModel" "besideStamp" "[I") (by decide +kernel)
  have k19 := hts (.fieldLink RX4 19 "TwinWritesModel" "besidePage" "[I") (by decide +kernel)
  have k144 := hts (.fieldLink RX4 144 "TwinWritesModel" "mended" "I") (by decide +kernel)
  subst hsz
  have hD := hD0.self (sz := st.heap.size)
  have hA : ∀ q : Nat, st.heap.size ≤ q → va_A ((mm_W cy ad xr) σ) st.heap.size q := fun q h => Or.inr h
  have hS : va_S (va_A ((mm_W cy ad xr) σ) st.heap.size) st.heap st.heap [] := va_S.rf
  generalize va_A ((mm_W cy ad xr) σ) st.heap.size = A at hD hA hS ⊢
  have hl := lv_entry ([.ref (ad 0)]) (n := 5) (Nat.le_of_ble_eq_true rfl)
  rw [lg_entry_eq]
  generalize (lg_sl ([.ref (ad 0)]) ++ List.replicate (5 - (lg_sl ([.ref (ad 0)])).length) Slot.unset).toArray = ls at hl ⊢
  have hl : lv_has ls 5 [(0, .ref (ad 0))] := hl
  refine lv_iconst (v := nI 0) hx hb dX4_mend_0 (by decide) ?_
  refine lv_istore_n (lv' := [(1, .int (nI 0)), (0, .ref (ad 0))]) hx hb dX4_mend_1 rfl hl (by decide) rfl (fun ls hl => ?_)
  have J2 : ∀ (n : Nat) (i : Nat) (s : me_M) (H : Heap) (locs : List Loc) (hP : va_P D vwCl ((mm_W cy ad xr) s) H) (hD : va_D A ((mm_W cy ad xr) s)) (hS : va_S A st.heap H locs) (ls : Array Slot) (hl : lv_has ls 5 [(1, .int (nI i)), (0, .ref (ad 0))]), ∀ (hi : i ≤ 12), ∀ (hn : 13 ≤ i + n), m_mend  σ = m_mend_2 n  i s → W p l e (headSpec wsX4_mend ({ frames := 3, cells := 0, slots := 0, locals := 67 })).room st m ([.ref (ad 0)] : List Value).toArray below meth c H locs 0 0 (MQ below (va_Qi (fun r σ' => (r, σ') = m_mend  σ) (me_B D (me_T cy) A (mm_W cy ad xr)) A) ([.ref (ad 0)] : List Value).toArray st 0 0 A) (F0 m 2 ls []) := by
    intro n
    induction n with
    | zero => intro i s H locs hP hD hS ls hl hi hn hf2; exfalso; omega
    | succ n ih =>
      intro i s H locs hP hD hS ls hl hi hn hf2
      refine lv_iload_n hx hb dX4_mend_2 rfl (lv_at hl 0 rfl) ?_
      refine lv_bipush (v := nI 12) hx hb dX4_mend_3 (by decide) ?_
      refine lv_icmp_ge (tgt := 140) hx hb dX4_mend_5 (by decide) (fun c5 => ?_) (fun c5 => ?_)
      ·
        try have h5 := (nI_leI (by omega) (by omega)).mp c5
        refine lv_iconst (v := nI 1) hx hb dX4_mend_140 (by decide) ?_
        exact me_reti hx hb hr rfl hlocks hK hP hD hS (by rw [hf2]; simp only [m_mend_2, if_pos c5]) dX4_mend_141
      ·
        try have h5 := (not_congr (nI_leI (by omega) (by omega))).mp c5
        refine lv_aload_n hx hb dX4_mend_8 rfl (lv_at hl 1 rfl) ?_
        refine lv_iload_n hx hb dX4_mend_9 rfl (lv_at hl 0 rfl) ?_
        refine me_callr (f := m_ihw i s) (w := (mm_W cy ad xr)) (σ := s) (As := [.int (nI i)]) (rest := []) ⟨hx, hb, hml, hown, hts⟩ (fun sz => c_X4_isHomeWhole l D cy ad xr i s (by omega) sz) (cwV 1 hts gX4_mend_X4_isHomeWhole rfl rfl rfl (by decide +kernel) ⟨Nat.le_of_ble_eq_true rfl, Nat.le_of_ble_eq_true rfl⟩) (va_recv hK hP (ci := 4) (q0 := 0) rfl (me_get (by omega) (mm_0 cy ad _))) hK hP hD hS hA rfl hl.1 rfl (Nat.le_of_ble_eq_true rfl) dX4_mend_10 ⟨Nat.zero_le _, Nat.zero_le _⟩ (fun r10 H locs e10 hP hD hS => ?_)
        refine lv_if_eq (tgt := 19) hx hb dX4_mend_13 (by decide) (fun c13 => ?_) (fun c13 => ?_)
        ·
          refine lv_iconst (v := (-1)) hx hb dX4_mend_19 (by decide) ?_
          refine lv_istore_n (lv' := [(2, .int ((-1))), (1, .int (nI i)), (0, .ref (ad 0))]) hx hb dX4_mend_20 rfl hl (by decide) rfl (fun ls hl => ?_)
          refine lv_iconst (v := nI 0) hx hb dX4_mend_21 (by decide) ?_
          refine lv_istore_n (lv' := [(3, .int (nI 0)), (2, .int ((-1))), (1, .int (nI i)), (0, .ref (ad 0))]) hx hb dX4_mend_22 rfl hl (by decide) rfl (fun ls hl => ?_)
          have J23 : ∀ (n : Nat) (i : Nat) (v : Int32) (t : Nat) (H : Heap) (locs : List Loc) (hP : va_P D vwCl ((mm_W cy ad xr) s) H) (hD : va_D A ((mm_W cy ad xr) s)) (hS : va_S A st.heap H locs) (ls : Array Slot) (hl : lv_has ls 5 [(3, .int (nI t)), (2, .int v), (1, .int (nI i)), (0, .ref (ad 0))]), ∀ (hi : i < 12), ∀ (hv : v = (-1) ∨ vp_in v 4), ∀ (ht : t ≤ 4), ∀ (hn : 5 ≤ t + n), (∀ (v' : Int32) (H : Heap) (locs : List Loc) (hP : va_P D vwCl ((mm_W cy ad xr) s) H) (hD : va_D A ((mm_W cy ad xr) s)) (hS : va_S A st.heap H locs) (ls : Array Slot) (hl : lv_has ls 5 [(2, .int v'), (1, .int (nI i)), (0, .ref (ad 0))]) (eJ : m_mend_23 n  i v t s = (v')) (hv : v' = (-1) ∨ vp_in v' 4), W p l e (headSpec wsX4_mend ({ frames := 3, cells := 0, slots := 0, locals := 67 })).room st m ([.ref (ad 0)] : List Value).toArray below meth c H locs 0 0 (MQ below (va_Qi (fun r σ' => (r, σ') = m_mend  σ) (me_B D (me_T cy) A (mm_W cy ad xr)) A) ([.ref (ad 0)] : List Value).toArray st 0 0 A) (F0 m 96 ls [])) → W p l e (headSpec wsX4_mend ({ frames := 3, cells := 0, slots := 0, locals := 67 })).room st m ([.ref (ad 0)] : List Value).toArray below meth c H locs 0 0 (MQ below (va_Qi (fun r σ' => (r, σ') = m_mend  σ) (me_B D (me_T cy) A (mm_W cy ad xr)) A) ([.ref (ad 0)] : List Value).toArray st 0 0 A) (F0 m 23 ls []) := by
            intro n
            induction n with
            | zero => intro i v t H locs hP hD hS ls hl hi hv ht hn kk23; exfalso; omega
            | succ n ih =>
              intro i v t H locs hP hD hS ls hl hi hv ht hn kk23
              refine lv_iload_n hx hb dX4_mend_23 rfl (lv_at hl 0 rfl) ?_
              refine lv_iconst (v := nI 4) hx hb dX4_mend_24 (by decide) ?_
              refine lv_icmp_ge (tgt := 96) hx hb dX4_mend_25 (by decide) (fun c25 => ?_) (fun c25 => ?_)
              ·
                try have h25 := (nI_leI (by omega) (by omega)).mp c25
                exact kk23 v _ _ hP hD hS ls (lv_sub hl [1, 2, 3] rfl) (by simp only [m_mend_23, if_pos c25]) (hv)
              ·
                try have h25 := (not_congr (nI_leI (by omega) (by omega))).mp c25
                refine lv_aload_n hx hb dX4_mend_28 rfl (lv_at hl 3 rfl) ?_
                refine lv_iload_n hx hb dX4_mend_29 rfl (lv_at hl 0 rfl) ?_
                refine me_callr (f := m_isw t s) (w := (mm_W cy ad xr)) (σ := s) (As := [.int (nI t)]) (rest := []) ⟨hx, hb, hml, hown, hts⟩ (fun sz => c_X4_isSlotWhole l D cy ad xr t s (by omega) sz) (cwV 1 hts gX4_mend_X4_isSlotWhole rfl rfl rfl (by decide +kernel) ⟨Nat.le_of_ble_eq_true rfl, Nat.le_of_ble_eq_true rfl⟩) (va_recv hK hP (ci := 4) (q0 := 0) rfl (me_get (by omega) (mm_0 cy ad _))) hK hP hD hS hA rfl hl.1 rfl (Nat.le_of_ble_eq_true rfl) dX4_mend_30 ⟨Nat.zero_le _, Nat.zero_le _⟩ (fun r30 H locs e30 hP hD hS => ?_)
                refine lv_if_eq (tgt := 52) hx hb dX4_mend_33 (by decide) (fun c33 => ?_) (fun c33 => ?_)
                ·
                  refine lv_iconst (v := nI 0) hx hb dX4_mend_52 (by decide) ?_
                  refine lv_istore (lv' := [(4, .int (nI 0)), (3, .int (nI t)), (2, .int v), (1, .int (nI i)), (0, .ref (ad 0))]) hx hb dX4_mend_53 hl (by decide) rfl (fun ls hl => ?_)
                  refine lv_iload hx hb dX4_mend_55 (lv_at hl 0 rfl) ?_
                  refine lv_if_eq (tgt := 88) hx hb dX4_mend_57 (by decide) (fun c57 => ?_) (fun c57 => ?_)
                  ·
                    refine lv_iload_n hx hb dX4_mend_88 rfl (lv_at hl 2 rfl) ?_
                    refine lv_istore_n (lv' := [(2, .int v), (4, .int (nI 0)), (3, .int (nI t)), (1, .int (nI i)), (0, .ref (ad 0))]) hx hb dX4_mend_89 rfl hl (by decide) rfl (fun ls hl => ?_)
                    refine lv_iinc (v := nI (t + 1)) (lv' := [(3, .int (nI (t + 1))), (2, .int v), (4, .int (nI 0)), (1, .int (nI i)), (0, .ref (ad 0))]) hx hb dX4_mend_90 hl (k := 2) rfl (me_inc _) (by decide) rfl (fun ls hl => ?_)
                    refine lv_goto (tgt := 23) hx hb dX4_mend_93 (by decide) ?_
                    exact ih i v (t + 1) _ _ hP hD hS ls (lv_sub hl [0, 1, 3, 4] rfl) (by omega) (by first | exact hv | exact Or.inr (vp_in_nI (by omega) (by decide))) (by omega) (by omega) (fun v' H locs hP hD hS ls hl eJ hv => kk23 v' H locs hP hD hS ls hl (by simp only [m_mend_23, if_neg c25, e30, if_pos c33, if_pos c57]; exact eJ) hv)
                  ·
                    refine lv_iload_n hx hb dX4_mend_60 rfl (lv_at hl 2 rfl) ?_
                    refine lv_iconst (v := (-1)) hx hb dX4_mend_61 (by decide) ?_
                    refine lv_icmp_eq (tgt := 84) hx hb dX4_mend_62 (by decide) (fun c62 => ?_) (fun c62 => ?_)
                    ·
                      refine lv_iload_n hx hb dX4_mend_84 rfl (lv_at hl 1 rfl) ?_
                      refine lv_goto (tgt := 89) hx hb dX4_mend_85 (by decide) ?_
                      refine lv_istore_n (lv' := [(2, .int (nI t)), (4, .int (nI 0)), (3, .int (nI t)), (1, .int (nI i)), (0, .ref (ad 0))]) hx hb dX4_mend_89 rfl hl (by decide) rfl (fun ls hl => ?_)
                      refine lv_iinc (v := nI (t + 1)) (lv' := [(3, .int (nI (t + 1))), (2, .int (nI t)), (4, .int (nI 0)), (1, .int (nI i)), (0, .ref (ad 0))]) hx hb dX4_mend_90 hl (k := 2) rfl (me_inc _) (by decide) rfl (fun ls hl => ?_)
                      refine lv_goto (tgt := 23) hx hb dX4_mend_93 (by decide) ?_
                      exact ih i (nI t) (t + 1) _ _ hP hD hS ls (lv_sub hl [0, 1, 3, 4] rfl) (by omega) (by first | exact hv | exact Or.inr (vp_in_nI (by omega) (by decide))) (by omega) (by omega) (fun v' H locs hP hD hS ls hl eJ hv => kk23 v' H locs hP hD hS ls hl (by simp only [m_mend_23, if_neg c25, e30, if_pos c33, if_neg c57, if_pos c62]; exact eJ) hv)
                    ·
                      refine lv_aload_n hx hb dX4_mend_65 rfl (lv_at hl 4 rfl) ?_
                      refine va_get (D := D) (ci := 4) (v := .ref (ad 3)) (C := RX4) (T := TX4) (N := 29) hx hb hts in4 hown hK hP 0 (me_get (by omega) (mm_0 cy ad _)) rfl 3 (by decide) k16 (fun _ h9 => h9) rfl dX4_mend_66 ?_
                      refine lv_iconst (v := nI 4) hx hb dX4_mend_69 (by decide) ?_
                      refine lv_iload_n hx hb dX4_mend_70 rfl (lv_at hl 1 rfl) ?_
                      refine lv_imul hx hb dX4_mend_71 ?_
                      refine me_top (pk_mul _ _) ?_
                      refine me_iald hx hb hK hP 3 0 (by omega) (fun f => mm_3 cy ad f) rfl (4 * t) rfl (by omega) (by decide) dX4_mend_72 ?_
                      refine lv_aload_n hx hb dX4_mend_73 rfl (lv_at hl 4 rfl) ?_
                      refine va_get (D := D) (ci := 4) (v := .ref (ad 3)) (C := RX4) (T := TX4) (N := 29) hx hb hts in4 hown hK hP 0 (me_get (by omega) (mm_0 cy ad _)) rfl 3 (by decide) k16 (fun _ h9 => h9) rfl dX4_mend_74 ?_
                      refine lv_iconst (v := nI 4) hx hb dX4_mend_77 (by decide) ?_
                      refine lv_iload_n hx hb dX4_mend_78 rfl (lv_at hl 2 rfl) ?_
                      have b78 := me_inb (hv.resolve_left c62)
                      refine me_top (me_ine (hv.resolve_left c62)) ?_
                      refine lv_imul hx hb dX4_mend_79 ?_
                      refine me_top (pk_mul _ _) ?_
                      refine me_iald hx hb hK hP 3 0 (by omega) (fun f => mm_3 cy ad f) rfl (4 * v.toNatClampNeg) rfl (by omega) (by decide) dX4_mend_80 ?_
                      refine lv_icmp_le (tgt := 88) hx hb dX4_mend_81 (by decide) (fun c81 => ?_) (fun c81 => ?_)
                      ·
                        refine lv_iload_n hx hb dX4_mend_88 rfl (lv_at hl 2 rfl) ?_
                        refine lv_istore_n (lv' := [(2, .int v), (4, .int (nI 0)), (3, .int (nI t)), (1, .int (nI i)), (0, .ref (ad 0))]) hx hb dX4_mend_89 rfl hl (by decide) rfl (fun ls hl => ?_)
                        refine lv_iinc (v := nI (t + 1)) (lv' := [(3, .int (nI (t + 1))), (2, .int v), (4, .int (nI 0)), (1, .int (nI i)), (0, .ref (ad 0))]) hx hb dX4_mend_90 hl (k := 2) rfl (me_inc _) (by decide) rfl (fun ls hl => ?_)
                        refine lv_goto (tgt := 23) hx hb dX4_mend_93 (by decide) ?_
                        exact ih i v (t + 1) _ _ hP hD hS ls (lv_sub hl [0, 1, 3, 4] rfl) (by omega) (by first | exact hv | exact Or.inr (vp_in_nI (by omega) (by decide))) (by omega) (by omega) (fun v' H locs hP hD hS ls hl eJ hv => kk23 v' H locs hP hD hS ls hl (by simp only [m_mend_23, if_neg c25, e30, if_pos c33, if_neg c57, if_neg c62, if_pos c81]; exact eJ) hv)
                      ·
                        refine lv_iload_n hx hb dX4_mend_84 rfl (lv_at hl 1 rfl) ?_
                        refine lv_goto (tgt := 89) hx hb dX4_mend_85 (by decide) ?_
                        refine lv_istore_n (lv' := [(2, .int (nI t)), (4, .int (nI 0)), (3, .int (nI t)), (1, .int (nI i)), (0, .ref (ad 0))]) hx hb dX4_mend_89 rfl hl (by decide) rfl (fun ls hl => ?_)
                        refine lv_iinc (v := nI (t + 1)) (lv' := [(3, .int (nI (t + 1))), (2, .int (nI t)), (4, .int (nI 0)), (1, .int (nI i)), (0, .ref (ad 0))]) hx hb dX4_mend_90 hl (k := 2) rfl (me_inc _) (by decide) rfl (fun ls hl => ?_)
                        refine lv_goto (tgt := 23) hx hb dX4_mend_93 (by decide) ?_
                        exact ih i (nI t) (t + 1) _ _ hP hD hS ls (lv_sub hl [0, 1, 3, 4] rfl) (by omega) (by first | exact hv | exact Or.inr (vp_in_nI (by omega) (by decide))) (by omega) (by omega) (fun v' H locs hP hD hS ls hl eJ hv => kk23 v' H locs hP hD hS ls hl (by simp only [m_mend_23, if_neg c25, e30, if_pos c33, if_neg c57, if_neg c62, if_neg c81]; exact eJ) hv)
                ·
                  refine lv_aload_n hx hb dX4_mend_36 rfl (lv_at hl 3 rfl) ?_
                  refine va_get (D := D) (ci := 4) (v := .ref (ad 4)) (C := RX4) (T := TX4) (N := 29) hx hb hts in4 hown hK hP 0 (me_get (by omega) (mm_0 cy ad _)) rfl 4 (by decide) k19 (fun _ h9 => h9) rfl dX4_mend_37 ?_
                  refine lv_iconst (v := nI 4) hx hb dX4_mend_40 (by decide) ?_
                  refine lv_iload_n hx hb dX4_mend_41 rfl (lv_at hl 0 rfl) ?_
                  refine lv_imul hx hb dX4_mend_42 ?_
                  refine me_top (pk_mul _ _) ?_
                  refine me_iald hx hb hK hP 4 0 (by omega) (fun f => mm_4 cy ad f) rfl (4 * t) rfl (by omega) (by decide) dX4_mend_43 ?_
                  refine lv_iload_n hx hb dX4_mend_44 rfl (lv_at hl 2 rfl) ?_
                  refine lv_icmp_ne (tgt := 52) hx hb dX4_mend_45 (by decide) (fun c45 => ?_) (fun c45 => ?_)
                  ·
                    refine lv_iconst (v := nI 0) hx hb dX4_mend_52 (by decide) ?_
                    refine lv_istore (lv' := [(4, .int (nI 0)), (3, .int (nI t)), (2, .int v), (1, .int (nI i)), (0, .ref (ad 0))]) hx hb dX4_mend_53 hl (by decide) rfl (fun ls hl => ?_)
                    refine lv_iload hx hb dX4_mend_55 (lv_at hl 0 rfl) ?_
                    refine lv_if_eq (tgt := 88) hx hb dX4_mend_57 (by decide) (fun c57 => ?_) (fun c57 => ?_)
                    ·
                      refine lv_iload_n hx hb dX4_mend_88 rfl (lv_at hl 2 rfl) ?_
                      refine lv_istore_n (lv' := [(2, .int v), (4, .int (nI 0)), (3, .int (nI t)), (1, .int (nI i)), (0, .ref (ad 0))]) hx hb dX4_mend_89 rfl hl (by decide) rfl (fun ls hl => ?_)
                      refine lv_iinc (v := nI (t + 1)) (lv' := [(3, .int (nI (t + 1))), (2, .int v), (4, .int (nI 0)), (1, .int (nI i)), (0, .ref (ad 0))]) hx hb dX4_mend_90 hl (k := 2) rfl (me_inc _) (by decide) rfl (fun ls hl => ?_)
                      refine lv_goto (tgt := 23) hx hb dX4_mend_93 (by decide) ?_
                      exact ih i v (t + 1) _ _ hP hD hS ls (lv_sub hl [0, 1, 3, 4] rfl) (by omega) (by first | exact hv | exact Or.inr (vp_in_nI (by omega) (by decide))) (by omega) (by omega) (fun v' H locs hP hD hS ls hl eJ hv => kk23 v' H locs hP hD hS ls hl (by simp only [m_mend_23, if_neg c25, e30, if_neg c33, if_neg c45, if_pos c57]; exact eJ) hv)
                    ·
                      refine lv_iload_n hx hb dX4_mend_60 rfl (lv_at hl 2 rfl) ?_
                      refine lv_iconst (v := (-1)) hx hb dX4_mend_61 (by decide) ?_
                      refine lv_icmp_eq (tgt := 84) hx hb dX4_mend_62 (by decide) (fun c62 => ?_) (fun c62 => ?_)
                      ·
                        refine lv_iload_n hx hb dX4_mend_84 rfl (lv_at hl 1 rfl) ?_
                        refine lv_goto (tgt := 89) hx hb dX4_mend_85 (by decide) ?_
                        refine lv_istore_n (lv' := [(2, .int (nI t)), (4, .int (nI 0)), (3, .int (nI t)), (1, .int (nI i)), (0, .ref (ad 0))]) hx hb dX4_mend_89 rfl hl (by decide) rfl (fun ls hl => ?_)
                        refine lv_iinc (v := nI (t + 1)) (lv' := [(3, .int (nI (t + 1))), (2, .int (nI t)), (4, .int (nI 0)), (1, .int (nI i)), (0, .ref (ad 0))]) hx hb dX4_mend_90 hl (k := 2) rfl (me_inc _) (by decide) rfl (fun ls hl => ?_)
                        refine lv_goto (tgt := 23) hx hb dX4_mend_93 (by decide) ?_
                        exact ih i (nI t) (t + 1) _ _ hP hD hS ls (lv_sub hl [0, 1, 3, 4] rfl) (by omega) (by first | exact hv | exact Or.inr (vp_in_nI (by omega) (by decide))) (by omega) (by omega) (fun v' H locs hP hD hS ls hl eJ hv => kk23 v' H locs hP hD hS ls hl (by simp only [m_mend_23, if_neg c25, e30, if_neg c33, if_neg c45, if_neg c57, if_pos c62]; exact eJ) hv)
                      ·
                        refine lv_aload_n hx hb dX4_mend_65 rfl (lv_at hl 4 rfl) ?_
                        refine va_get (D := D) (ci := 4) (v := .ref (ad 3)) (C := RX4) (T := TX4) (N := 29) hx hb hts in4 hown hK hP 0 (me_get (by omega) (mm_0 cy ad _)) rfl 3 (by decide) k16 (fun _ h9 => h9) rfl dX4_mend_66 ?_
                        refine lv_iconst (v := nI 4) hx hb dX4_mend_69 (by decide) ?_
                        refine lv_iload_n hx hb dX4_mend_70 rfl (lv_at hl 1 rfl) ?_
                        refine lv_imul hx hb dX4_mend_71 ?_
                        refine me_top (pk_mul _ _) ?_
                        refine me_iald hx hb hK hP 3 0 (by omega) (fun f => mm_3 cy ad f) rfl (4 * t) rfl (by omega) (by decide) dX4_mend_72 ?_
                        refine lv_aload_n hx hb dX4_mend_73 rfl (lv_at hl 4 rfl) ?_
                        refine va_get (D := D) (ci := 4) (v := .ref (ad 3)) (C := RX4) (T := TX4) (N := 29) hx hb hts in4 hown hK hP 0 (me_get (by omega) (mm_0 cy ad _)) rfl 3 (by decide) k16 (fun _ h9 => h9) rfl dX4_mend_74 ?_
                        refine lv_iconst (v := nI 4) hx hb dX4_mend_77 (by decide) ?_
                        refine lv_iload_n hx hb dX4_mend_78 rfl (lv_at hl 2 rfl) ?_
                        have b78 := me_inb (hv.resolve_left c62)
                        refine me_top (me_ine (hv.resolve_left c62)) ?_
                        refine lv_imul hx hb dX4_mend_79 ?_
                        refine me_top (pk_mul _ _) ?_
                        refine me_iald hx hb hK hP 3 0 (by omega) (fun f => mm_3 cy ad f) rfl (4 * v.toNatClampNeg) rfl (by omega) (by decide) dX4_mend_80 ?_
                        refine lv_icmp_le (tgt := 88) hx hb dX4_mend_81 (by decide) (fun c81 => ?_) (fun c81 => ?_)
                        ·
                          refine lv_iload_n hx hb dX4_mend_88 rfl (lv_at hl 2 rfl) ?_
                          refine lv_istore_n (lv' := [(2, .int v), (4, .int (nI 0)), (3, .int (nI t)), (1, .int (nI i)), (0, .ref (ad 0))]) hx hb dX4_mend_89 rfl hl (by decide) rfl (fun ls hl => ?_)
                          refine lv_iinc (v := nI (t + 1)) (lv' := [(3, .int (nI (t + 1))), (2, .int v), (4, .int (nI 0)), (1, .int (nI i)), (0, .ref (ad 0))]) hx hb dX4_mend_90 hl (k := 2) rfl (me_inc _) (by decide) rfl (fun ls hl => ?_)
                          refine lv_goto (tgt := 23) hx hb dX4_mend_93 (by decide) ?_
                          exact ih i v (t + 1) _ _ hP hD hS ls (lv_sub hl [0, 1, 3, 4] rfl) (by omega) (by first | exact hv | exact Or.inr (vp_in_nI (by omega) (by decide))) (by omega) (by omega) (fun v' H locs hP hD hS ls hl eJ hv => kk23 v' H locs hP hD hS ls hl (by simp only [m_mend_23, if_neg c25, e30, if_neg c33, if_neg c45, if_neg c57, if_neg c62, if_pos c81]; exact eJ) hv)
                        ·
                          refine lv_iload_n hx hb dX4_mend_84 rfl (lv_at hl 1 rfl) ?_
                          refine lv_goto (tgt := 89) hx hb dX4_mend_85 (by decide) ?_
                          refine lv_istore_n (lv' := [(2, .int (nI t)), (4, .int (nI 0)), (3, .int (nI t)), (1, .int (nI i)), (0, .ref (ad 0))]) hx hb dX4_mend_89 rfl hl (by decide) rfl (fun ls hl => ?_)
                          refine lv_iinc (v := nI (t + 1)) (lv' := [(3, .int (nI (t + 1))), (2, .int (nI t)), (4, .int (nI 0)), (1, .int (nI i)), (0, .ref (ad 0))]) hx hb dX4_mend_90 hl (k := 2) rfl (me_inc _) (by decide) rfl (fun ls hl => ?_)
                          refine lv_goto (tgt := 23) hx hb dX4_mend_93 (by decide) ?_
                          exact ih i (nI t) (t + 1) _ _ hP hD hS ls (lv_sub hl [0, 1, 3, 4] rfl) (by omega) (by first | exact hv | exact Or.inr (vp_in_nI (by omega) (by decide))) (by omega) (by omega) (fun v' H locs hP hD hS ls hl eJ hv => kk23 v' H locs hP hD hS ls hl (by simp only [m_mend_23, if_neg c25, e30, if_neg c33, if_neg c45, if_neg c57, if_neg c62, if_neg c81]; exact eJ) hv)
                  ·
                    refine lv_iconst (v := nI 1) hx hb dX4_mend_48 (by decide) ?_
                    refine lv_goto (tgt := 53) hx hb dX4_mend_49 (by decide) ?_
                    refine lv_istore (lv' := [(4, .int (nI 1)), (3, .int (nI t)), (2, .int v), (1, .int (nI i)), (0, .ref (ad 0))]) hx hb dX4_mend_53 hl (by decide) rfl (fun ls hl => ?_)
                    refine lv_iload hx hb dX4_mend_55 (lv_at hl 0 rfl) ?_
                    refine lv_if_eq (tgt := 88) hx hb dX4_mend_57 (by decide) (fun c57 => ?_) (fun c57 => ?_)
                    ·
                      refine lv_iload_n hx hb dX4_mend_88 rfl (lv_at hl 2 rfl) ?_
                      refine lv_istore_n (lv' := [(2, .int v), (4, .int (nI 1)), (3, .int (nI t)), (1, .int (nI i)), (0, .ref (ad 0))]) hx hb dX4_mend_89 rfl hl (by decide) rfl (fun ls hl => ?_)
                      refine lv_iinc (v := nI (t + 1)) (lv' := [(3, .int (nI (t + 1))), (2, .int v), (4, .int (nI 1)), (1, .int (nI i)), (0, .ref (ad 0))]) hx hb dX4_mend_90 hl (k := 2) rfl (me_inc _) (by decide) rfl (fun ls hl => ?_)
                      refine lv_goto (tgt := 23) hx hb dX4_mend_93 (by decide) ?_
                      exact ih i v (t + 1) _ _ hP hD hS ls (lv_sub hl [0, 1, 3, 4] rfl) (by omega) (by first | exact hv | exact Or.inr (vp_in_nI (by omega) (by decide))) (by omega) (by omega) (fun v' H locs hP hD hS ls hl eJ hv => kk23 v' H locs hP hD hS ls hl (by simp only [m_mend_23, if_neg c25, e30, if_neg c33, if_pos c45, if_pos c57]; exact eJ) hv)
                    ·
                      refine lv_iload_n hx hb dX4_mend_60 rfl (lv_at hl 2 rfl) ?_
                      refine lv_iconst (v := (-1)) hx hb dX4_mend_61 (by decide) ?_
                      refine lv_icmp_eq (tgt := 84) hx hb dX4_mend_62 (by decide) (fun c62 => ?_) (fun c62 => ?_)
                      ·
                        refine lv_iload_n hx hb dX4_mend_84 rfl (lv_at hl 1 rfl) ?_
                        refine lv_goto (tgt := 89) hx hb dX4_mend_85 (by decide) ?_
                        refine lv_istore_n (lv' := [(2, .int (nI t)), (4, .int (nI 1)), (3, .int (nI t)), (1, .int (nI i)), (0, .ref (ad 0))]) hx hb dX4_mend_89 rfl hl (by decide) rfl (fun ls hl => ?_)
                        refine lv_iinc (v := nI (t + 1)) (lv' := [(3, .int (nI (t + 1))), (2, .int (nI t)), (4, .int (nI 1)), (1, .int (nI i)), (0, .ref (ad 0))]) hx hb dX4_mend_90 hl (k := 2) rfl (me_inc _) (by decide) rfl (fun ls hl => ?_)
                        refine lv_goto (tgt := 23) hx hb dX4_mend_93 (by decide) ?_
                        exact ih i (nI t) (t + 1) _ _ hP hD hS ls (lv_sub hl [0, 1, 3, 4] rfl) (by omega) (by first | exact hv | exact Or.inr (vp_in_nI (by omega) (by decide))) (by omega) (by omega) (fun v' H locs hP hD hS ls hl eJ hv => kk23 v' H locs hP hD hS ls hl (by simp only [m_mend_23, if_neg c25, e30, if_neg c33, if_pos c45, if_neg c57, if_pos c62]; exact eJ) hv)
                      ·
                        refine lv_aload_n hx hb dX4_mend_65 rfl (lv_at hl 4 rfl) ?_
                        refine va_get (D := D) (ci := 4) (v := .ref (ad 3)) (C := RX4) (T := TX4) (N := 29) hx hb hts in4 hown hK hP 0 (me_get (by omega) (mm_0 cy ad _)) rfl 3 (by decide) k16 (fun _ h9 => h9) rfl dX4_mend_66 ?_
                        refine lv_iconst (v := nI 4) hx hb dX4_mend_69 (by decide) ?_
                        refine lv_iload_n hx hb dX4_mend_70 rfl (lv_at hl 1 rfl) ?_
                        refine lv_imul hx hb dX4_mend_71 ?_
                        refine me_top (pk_mul _ _) ?_
                        refine me_iald hx hb hK hP 3 0 (by omega) (fun f => mm_3 cy ad f) rfl (4 * t) rfl (by omega) (by decide) dX4_mend_72 ?_
                        refine lv_aload_n hx hb dX4_mend_73 rfl (lv_at hl 4 rfl) ?_
                        refine va_get (D := D) (ci := 4) (v := .ref (ad 3)) (C := RX4) (T := TX4) (N := 29) hx hb hts in4 hown hK hP 0 (me_get (by omega) (mm_0 cy ad _)) rfl 3 (by decide) k16 (fun _ h9 => h9) rfl dX4_mend_74 ?_
                        refine lv_iconst (v := nI 4) hx hb dX4_mend_77 (by decide) ?_
                        refine lv_iload_n hx hb dX4_mend_78 rfl (lv_at hl 2 rfl) ?_
                        have b78 := me_inb (hv.resolve_left c62)
                        refine me_top (me_ine (hv.resolve_left c62)) ?_
                        refine lv_imul hx hb dX4_mend_79 ?_
                        refine me_top (pk_mul _ _) ?_
                        refine me_iald hx hb hK hP 3 0 (by omega) (fun f => mm_3 cy ad f) rfl (4 * v.toNatClampNeg) rfl (by omega) (by decide) dX4_mend_80 ?_
                        refine lv_icmp_le (tgt := 88) hx hb dX4_mend_81 (by decide) (fun c81 => ?_) (fun c81 => ?_)
                        ·
                          refine lv_iload_n hx hb dX4_mend_88 rfl (lv_at hl 2 rfl) ?_
                          refine lv_istore_n (lv' := [(2, .int v), (4, .int (nI 1)), (3, .int (nI t)), (1, .int (nI i)), (0, .ref (ad 0))]) hx hb dX4_mend_89 rfl hl (by decide) rfl (fun ls hl => ?_)
                          refine lv_iinc (v := nI (t + 1)) (lv' := [(3, .int (nI (t + 1))), (2, .int v), (4, .int (nI 1)), (1, .int (nI i)), (0, .ref (ad 0))]) hx hb dX4_mend_90 hl (k := 2) rfl (me_inc _) (by decide) rfl (fun ls hl => ?_)
                          refine lv_goto (tgt := 23) hx hb dX4_mend_93 (by decide) ?_
                          exact ih i v (t + 1) _ _ hP hD hS ls (lv_sub hl [0, 1, 3, 4] rfl) (by omega) (by first | exact hv | exact Or.inr (vp_in_nI (by omega) (by decide))) (by omega) (by omega) (fun v' H locs hP hD hS ls hl eJ hv => kk23 v' H locs hP hD hS ls hl (by simp only [m_mend_23, if_neg c25, e30, if_neg c33, if_pos c45, if_neg c57, if_neg c62, if_pos c81]; exact eJ) hv)
                        ·
                          refine lv_iload_n hx hb dX4_mend_84 rfl (lv_at hl 1 rfl) ?_
                          refine lv_goto (tgt := 89) hx hb dX4_mend_85 (by decide) ?_
                          refine lv_istore_n (lv' := [(2, .int (nI t)), (4, .int (nI 1)), (3, .int (nI t)), (1, .int (nI i)), (0, .ref (ad 0))]) hx hb dX4_mend_89 rfl hl (by decide) rfl (fun ls hl => ?_)
                          refine lv_iinc (v := nI (t + 1)) (lv' := [(3, .int (nI (t + 1))), (2, .int (nI t)), (4, .int (nI 1)), (1, .int (nI i)), (0, .ref (ad 0))]) hx hb dX4_mend_90 hl (k := 2) rfl (me_inc _) (by decide) rfl (fun ls hl => ?_)
                          refine lv_goto (tgt := 23) hx hb dX4_mend_93 (by decide) ?_
                          exact ih i (nI t) (t + 1) _ _ hP hD hS ls (lv_sub hl [0, 1, 3, 4] rfl) (by omega) (by first | exact hv | exact Or.inr (vp_in_nI (by omega) (by decide))) (by omega) (by omega) (fun v' H locs hP hD hS ls hl eJ hv => kk23 v' H locs hP hD hS ls hl (by simp only [m_mend_23, if_neg c25, e30, if_neg c33, if_pos c45, if_neg c57, if_neg c62, if_neg c81]; exact eJ) hv)
          refine J23 5 i ((-1)) 0 _ _ hP hD hS ls (lv_sub hl [0, 1, 2, 3] rfl) (by omega) (Or.inl rfl) (by omega) (by omega) (fun v23 H locs hP hD hS ls hl e23 hv23 => ?_)
          refine lv_iload_n hx hb dX4_mend_96 rfl (lv_at hl 0 rfl) ?_
          refine lv_iconst (v := (-1)) hx hb dX4_mend_97 (by decide) ?_
          refine lv_icmp_ne (tgt := 104) hx hb dX4_mend_98 (by decide) (fun c98 => ?_) (fun c98 => ?_)
          ·
            refine lv_aload_n hx hb dX4_mend_104 rfl (lv_at hl 2 rfl) ?_
            refine lv_iload_n hx hb dX4_mend_105 rfl (lv_at hl 1 rfl) ?_
            refine lv_aload_n hx hb dX4_mend_106 rfl (lv_at hl 2 rfl) ?_
            refine va_get (D := D) (ci := 4) (v := .ref (ad 3)) (C := RX4) (T := TX4) (N := 29) hx hb hts in4 hown hK hP 0 (me_get (by omega) (mm_0 cy ad _)) rfl 3 (by decide) k16 (fun _ h9 => h9) rfl dX4_mend_107 ?_
            refine lv_iconst (v := nI 4) hx hb dX4_mend_110 (by decide) ?_
            refine lv_iload_n hx hb dX4_mend_111 rfl (lv_at hl 0 rfl) ?_
            have b111 := me_inb (hv23.resolve_left c98)
            refine me_top (me_ine (hv23.resolve_left c98)) ?_
            refine lv_imul hx hb dX4_mend_112 ?_
            refine me_top (pk_mul _ _) ?_
            refine me_iald hx hb hK hP 3 0 (by omega) (fun f => mm_3 cy ad f) rfl (4 * v23.toNatClampNeg) rfl (by omega) (by decide) dX4_mend_113 ?_
            refine lv_iload_n hx hb dX4_mend_114 rfl (lv_at hl 0 rfl) ?_
            refine me_top (me_ine (hv23.resolve_left c98)) ?_
            refine lv_iconst (v := nI 0) hx hb dX4_mend_115 (by decide) ?_
            refine me_calli (f := m_wh i (s 3 (4 * v23.toNatClampNeg)) v23.toNatClampNeg (nI 0) s) (w := (mm_W cy ad xr)) (σ := s) (As := [.int (nI i), .int (s 3 (4 * v23.toNatClampNeg)), .int (nI v23.toNatClampNeg), .int (nI 0)]) (rest := []) ⟨hx, hb, hml, hown, hts⟩ (fun sz => c_X4_writeHome l D cy ad xr i (s 3 (4 * v23.toNatClampNeg)) v23.toNatClampNeg (nI 0) s (by omega) (by omega) sz) (cwV 4 hts gX4_mend_X4_writeHome rfl rfl rfl (by decide +kernel) ⟨Nat.le_of_ble_eq_true rfl, Nat.le_of_ble_eq_true rfl⟩) (va_recv hK hP (ci := 4) (q0 := 0) rfl (me_get (by omega) (mm_0 cy ad _))) hK hP hD hS hA rfl hl.1 rfl (Nat.le_of_ble_eq_true rfl) dX4_mend_116 ⟨Nat.zero_le _, Nat.zero_le _⟩ (fun r116 s116 H locs e116 hP hD hS => ?_)
            refine lv_if_ne (tgt := 124) hx hb dX4_mend_119 (by decide) (fun c119 => ?_) (fun c119 => ?_)
            ·
              refine lv_aload_n hx hb dX4_mend_124 rfl (lv_at hl 2 rfl) ?_
              refine lv_dup hx hb dX4_mend_125 rfl ?_
              refine va_get (D := D) (ci := 4) (v := .int (s116 0 28)) (C := RX4) (T := TX4) (N := 29) hx hb hts in4 hown hK hP 0 (me_get (by omega) (mm_0 cy ad _)) rfl 28 (by decide) k144 (fun _ h9 => h9) rfl dX4_mend_126 ?_
              refine lv_iconst (v := nI 1) hx hb dX4_mend_129 (by decide) ?_
              refine lv_iadd hx hb dX4_mend_130 ?_
              refine me_put (ty := .int) (ci := 4) (C := RX4) (T := TX4) (M := 29) hx hb hts in4 tyX4 tyX4_ok nmX4 hown hK hP hD hS 0 (by omega) (mm_0 cy ad _) rfl 28 (by decide) k144 (fun _ h9 => h9) rfl (by decide +kernel) rfl rfl (Nat.le_of_ble_eq_true rfl) (mm_0 cy ad _) dX4_mend_131 (fun s131 H locs e131 hP hD hS => ?_)
              refine lv_iinc (v := nI (i + 1)) (lv' := [(1, .int (nI (i + 1))), (2, .int v23), (0, .ref (ad 0))]) hx hb dX4_mend_134 hl (k := 1) rfl (me_inc _) (by decide) rfl (fun ls hl => ?_)
              refine lv_goto (tgt := 2) hx hb dX4_mend_137 (by decide) ?_
              exact ih (i + 1) s131 _ _ hP hD hS ls (lv_sub hl [0, 2] rfl) (by omega) (by omega) (by rw [hf2]; simp only [m_mend_2, if_neg c5, e10, if_pos c13, e23, if_neg c98, e116, if_neg c119, e131])
            ·
              refine lv_iconst (v := nI 0) hx hb dX4_mend_122 (by decide) ?_
              exact me_reti hx hb hr rfl hlocks hK hP hD hS (by rw [hf2]; simp only [m_mend_2, if_neg c5, e10, if_pos c13, e23, if_neg c98, e116, if_pos c119]) dX4_mend_123
          ·
            refine lv_goto (tgt := 134) hx hb dX4_mend_101 (by decide) ?_
            refine lv_iinc (v := nI (i + 1)) (lv' := [(1, .int (nI (i + 1))), (2, .int v23), (0, .ref (ad 0))]) hx hb dX4_mend_134 hl (k := 1) rfl (me_inc _) (by decide) rfl (fun ls hl => ?_)
            refine lv_goto (tgt := 2) hx hb dX4_mend_137 (by decide) ?_
            exact ih (i + 1) s _ _ hP hD hS ls (lv_sub hl [0, 2] rfl) (by omega) (by omega) (by rw [hf2]; simp only [m_mend_2, if_neg c5, e10, if_pos c13, e23, if_pos c98])
        ·
          refine lv_goto (tgt := 134) hx hb dX4_mend_16 (by decide) ?_
          refine lv_iinc (v := nI (i + 1)) (lv' := [(1, .int (nI (i + 1))), (0, .ref (ad 0))]) hx hb dX4_mend_134 hl (k := 0) rfl (me_inc _) (by decide) rfl (fun ls hl => ?_)
          refine lv_goto (tgt := 2) hx hb dX4_mend_137 (by decide) ?_
          exact ih (i + 1) s _ _ hP hD hS ls (lv_sub hl [0, 1] rfl) (by omega) (by omega) (by rw [hf2]; simp only [m_mend_2, if_neg c5, e10, if_neg c13])
  exact J2 13 0 σ _ _ hP hD hS ls (lv_sub hl [0, 1] rfl) (by omega) (by omega) (by simp only [m_mend])
