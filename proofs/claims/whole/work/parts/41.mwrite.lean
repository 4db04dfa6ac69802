def m_wh_36 : Nat → Nat → Int32 → Nat → Int32 → Nat → Nat → me_M → me_M
  | 0, a, y, b, o, i, t, s => (s)
  | n + 1, a, y, b, o, i, t, s => if nI (4 * i + 4) ≤ (nI t) then ((s)) else (if o = 0 then (let s90 := me_st s 2 (16 * a + t) (s 5 (16 * b + t)); m_wh_36 n a y b o i (t + 1) s90) else (let s90 := me_st s 2 (16 * a + t) (s 14 (16 * b + t)); m_wh_36 n a y b o i (t + 1) s90))
def m_wh_3 : Nat → Nat → Int32 → Nat → Int32 → Nat → me_M → Int32 × me_M
  | 0, a, y, b, o, i, s => (0, s)
  | n + 1, a, y, b, o, i, s => if nI 4 ≤ (nI i) then ((nI 1, s)) else (let q10 := m_mw s; let r10 := q10.1; let s10 := q10.2; if r10 = 0 then ((nI 0, s10)) else (let s29 := me_st s10 1 (4 * a + i) y; let s36 := m_wh_36 5 a y b o i (4 * i) s29; m_wh_3 n a y b o (i + 1) s36))
def m_wh (a : Nat) (y : Int32) (b : Nat) (o : Int32) (σ : me_M) : Int32 × me_M := m_wh_3 5 a y b o 0 σ
set_option maxRecDepth 100000 in
set_option maxHeartbeats 4000000 in
theorem c_X4_writeHome (l : Launch) (D : va_G) (cy : Nat → ClassId) (ad : Nat → Nat) (xr : va_W) (a : Nat) (y : Int32) (b : Nat) (o : Int32) (σ : me_M) (ha : a < 12) (hb4 : b < 4) (sz : Nat) : me_Ci l yX4_writeHome wsX4_writeHome ({ frames := 2, cells := 0, slots := 0, locals := 41 }) D (me_T cy) (mm_W cy ad xr) [.ref (ad 0), .int (nI a), .int y, .int (nI b), .int o] sz σ (m_wh a y b o σ) := by
  refine Met.ofW (cc := cX4_writeHome) (maxL := 7) (ret := (some .boolean)) (by decide) rfl ?_
  intro p e st m args below meth c s₁ B hml hv
  obtain ⟨rfl, hsz, hP, hK, hD0⟩ := hv
  have hx := B.exec
  have hb := B.bytes
  have hr := B.returns
  have hts := atoms_spec (ws := wsX4_writeHome) B.pre
  have hown : st.vm.findClass RX4 = some m.cls := findClass_of_methodNamed B.named
  have hlocks := B.notSynchronized
  have in4 : ∀ w ∈ u_ws RX4 TX4 29, w ∈ wsX4_writeHome := by decide +kernel
  have k7 := hts (.fieldLink RX4 7 "TwinWritesModel" "homeStamp" "[I") (by decide +kernel)
  have k13 := hts (.fieldLink RX4 13 "TwinWritesModel" "homeWord" "[I") (by decide +kernel)
  have k22 := hts (.fieldLink RX4 22 "TwinWritesModel" "besideWord" "[I") (by decide +kernel)
  have k54 := hts (.fieldLink RX4 54 "TwinWritesModel" "frameWord" "[I") (by decide +kernel)
  subst hsz
  have hD := hD0.self (sz := st.heap.size)
  have hA : ∀ q : Nat, st.heap.size ≤ q → va_A ((mm_W cy ad xr) σ) st.heap.size q := fun q h => Or.inr h
  have hS : va_S (va_A ((mm_W cy ad xr) σ) st.heap.size) st.heap st.heap [] := va_S.rf
  generalize va_A ((mm_W cy ad xr) σ) st.heap.size = A at hD hA hS ⊢
  have hl := lv_entry ([.ref (ad 0), .int (nI a), .int y, .int (nI b), .int o]) (n := 7) (Nat.le_of_ble_eq_true rfl)
  rw [lg_entry_eq]
  generalize (lg_sl ([.ref (ad 0), .int (nI a), .int y, .int (nI b), .int o]) ++ List.replicate (7 - (lg_sl ([.ref (ad 0), .int (nI a), .int y, .int (nI b), .int o])).length) Slot.unset).toArray = ls at hl ⊢
  have hl : lv_has ls 7 [(0, .ref (ad 0)), (1, .int (nI a)), (2, .int y), (3, .int (nI b)), (4, .int o)] := hl
  refine lv_iconst (v := nI 0) hx hb dX4_writeHome_0 (by decide) ?_
  refine lv_istore (lv' := [(5, .int (nI 0)), (0, .ref (ad 0)), (1, .int (nI a)), (2, .int y), (3, .int (nI b)), (4, .int o)]) hx hb dX4_writeHome_1 hl (by decide) rfl (fun ls hl => ?_)
  have J3 : ∀ (n : Nat) (i : Nat) (s : me_M) (H : Heap) (locs : List Loc) (hP : va_P D vwCl ((mm_W cy ad xr) s) H) (hD : va_D A ((mm_W cy ad xr) s)) (hS : va_S A st.heap H locs) (ls : Array Slot) (hl : lv_has ls 7 [(5, .int (nI i)), (0, .ref (ad 0)), (1, .int (nI a)), (2, .int y), (3, .int (nI b)), (4, .int o)]), ∀ (hi : i ≤ 4), ∀ (hn : 5 ≤ i + n), m_wh a y b o σ = m_wh_3 n a y b o i s → W p l e (headSpec wsX4_writeHome ({ frames := 2, cells := 0, slots := 0, locals := 41 })).room st m ([.ref (ad 0), .int (nI a), .int y, .int (nI b), .int o] : List Value).toArray below meth c H locs 0 0 (MQ below (va_Qi (fun r σ' => (r, σ') = m_wh a y b o σ) (me_B D (me_T cy) A (mm_W cy ad xr)) A) ([.ref (ad 0), .int (nI a), .int y, .int (nI b), .int o] : List Value).toArray st 0 0 A) (F0 m 3 ls []) := by
    intro n
    induction n with
    | zero => intro i s H locs hP hD hS ls hl hi hn hf3; exfalso; omega
    | succ n ih =>
      intro i s H locs hP hD hS ls hl hi hn hf3
      refine lv_iload hx hb dX4_writeHome_3 (lv_at hl 0 rfl) ?_
      refine lv_iconst (v := nI 4) hx hb dX4_writeHome_5 (by decide) ?_
      refine lv_icmp_ge (tgt := 103) hx hb dX4_writeHome_6 (by decide) (fun c6 => ?_) (fun c6 => ?_)
      ·
        try have h6 := (nI_leI (by omega) (by omega)).mp c6
        refine lv_iconst (v := nI 1) hx hb dX4_writeHome_103 (by decide) ?_
        exact me_reti hx hb hr rfl hlocks hK hP hD hS (by rw [hf3]; simp only [m_wh_3, if_pos c6]) dX4_writeHome_104
      ·
        try have h6 := (not_congr (nI_leI (by omega) (by omega))).mp c6
        refine lv_aload_n hx hb dX4_writeHome_9 rfl (lv_at hl 1 rfl) ?_
        refine me_calli (f := m_mw s) (w := (mm_W cy ad xr)) (σ := s) (As := []) (rest := []) ⟨hx, hb, hml, hown, hts⟩ (fun sz => c_X4_mayWrite l D cy ad xr  s  sz) (cwV 0 hts gX4_writeHome_X4_mayWrite rfl rfl rfl (by decide +kernel) ⟨Nat.le_of_ble_eq_true rfl, Nat.le_of_ble_eq_true rfl⟩) (va_recv hK hP (ci := 4) (q0 := 0) rfl (me_get (by omega) (mm_0 cy ad _))) hK hP hD hS hA rfl hl.1 rfl (Nat.le_of_ble_eq_true rfl) dX4_writeHome_10 ⟨Nat.zero_le _, Nat.zero_le _⟩ (fun r10 s10 H locs e10 hP hD hS => ?_)
        refine lv_if_ne (tgt := 18) hx hb dX4_writeHome_13 (by decide) (fun c13 => ?_) (fun c13 => ?_)
        ·
          refine lv_aload_n hx hb dX4_writeHome_18 rfl (lv_at hl 1 rfl) ?_
          refine va_get (D := D) (ci := 4) (v := .ref (ad 1)) (C := RX4) (T := TX4) (N := 29) hx hb hts in4 hown hK hP 0 (me_get (by omega) (mm_0 cy ad _)) rfl 1 (by decide) k7 (fun _ h9 => h9) rfl dX4_writeHome_19 ?_
          refine lv_iconst (v := nI 4) hx hb dX4_writeHome_22 (by decide) ?_
          refine lv_iload_n hx hb dX4_writeHome_23 rfl (lv_at hl 2 rfl) ?_
          refine lv_imul hx hb dX4_writeHome_24 ?_
          refine me_top (pk_mul _ _) ?_
          refine lv_iload hx hb dX4_writeHome_25 (lv_at hl 0 rfl) ?_
          refine lv_iadd hx hb dX4_writeHome_27 ?_
          refine me_top (nI_add _ _) ?_
          refine lv_iload_n hx hb dX4_writeHome_28 rfl (lv_at hl 3 rfl) ?_
          refine me_iast hx hb hK hP hD hS 1 0 (by omega) (fun f => mm_1 cy ad f) rfl (4 * a + i) rfl (by omega) (by decide) dX4_writeHome_29 (fun s29 H locs e29 hP hD hS => ?_)
          refine lv_iconst (v := nI 4) hx hb dX4_writeHome_30 (by decide) ?_
          refine lv_iload hx hb dX4_writeHome_31 (lv_at hl 0 rfl) ?_
          refine lv_imul hx hb dX4_writeHome_33 ?_
          refine me_top (pk_mul _ _) ?_
          refine lv_istore (lv' := [(6, .int (nI (4 * i))), (5, .int (nI i)), (0, .ref (ad 0)), (1, .int (nI a)), (2, .int y), (3, .int (nI b)), (4, .int o)]) hx hb dX4_writeHome_34 hl (by decide) rfl (fun ls hl => ?_)
          have J36 : ∀ (n : Nat) (i : Nat) (t : Nat) (s : me_M) (H : Heap) (locs : List Loc) (hP : va_P D vwCl ((mm_W cy ad xr) s) H) (hD : va_D A ((mm_W cy ad xr) s)) (hS : va_S A st.heap H locs) (ls : Array Slot) (hl : lv_has ls 7 [(6, .int (nI t)), (5, .int (nI i)), (0, .ref (ad 0)), (1, .int (nI a)), (2, .int y), (3, .int (nI b)), (4, .int o)]), ∀ (hi : i < 4), ∀ (ht : 4 * i ≤ t ∧ t ≤ 4 * i + 4), ∀ (hn : 4 * i + 5 ≤ t + n), (∀  (s' : me_M) (H : Heap) (locs : List Loc) (hP : va_P D vwCl ((mm_W cy ad xr) s') H) (hD : va_D A ((mm_W cy ad xr) s')) (hS : va_S A st.heap H locs) (ls : Array Slot) (hl : lv_has ls 7 [(5, .int (nI i)), (0, .ref (ad 0)), (1, .int (nI a)), (2, .int y), (3, .int (nI b)), (4, .int o)]) (eJ : m_wh_36 n a y b o i t s = (s')) , W p l e (headSpec wsX4_writeHome ({ frames := 2, cells := 0, slots := 0, locals := 41 })).room st m ([.ref (ad 0), .int (nI a), .int y, .int (nI b), .int o] : List Value).toArray below meth c H locs 0 0 (MQ below (va_Qi (fun r σ' => (r, σ') = m_wh a y b o σ) (me_B D (me_T cy) A (mm_W cy ad xr)) A) ([.ref (ad 0), .int (nI a), .int y, .int (nI b), .int o] : List Value).toArray st 0 0 A) (F0 m 97 ls [])) → W p l e (headSpec wsX4_writeHome ({ frames := 2, cells := 0, slots := 0, locals := 41 })).room st m ([.ref (ad 0), .int (nI a), .int y, .int (nI b), .int o] : List Value).toArray below meth c H locs 0 0 (MQ below (va_Qi (fun r σ' => (r, σ') = m_wh a y b o σ) (me_B D (me_T cy) A (mm_W cy ad xr)) A) ([.ref (ad 0), .int (nI a), .int y, .int (nI b), .int o] : List Value).toArray st 0 0 A) (F0 m 36 ls []) := by
            intro n
            induction n with
            | zero => intro i t s H locs hP hD hS ls hl hi ht hn kk36; exfalso; omega
            | succ n ih =>
              intro i t s H locs hP hD hS ls hl hi ht hn kk36
              refine lv_iload hx hb dX4_writeHome_36 (lv_at hl 0 rfl) ?_
              refine lv_iconst (v := nI 4) hx hb dX4_writeHome_38 (by decide) ?_
              refine lv_iload hx hb dX4_writeHome_39 (lv_at hl 1 rfl) ?_
              refine lv_imul hx hb dX4_writeHome_41 ?_
              refine me_top (pk_mul _ _) ?_
              refine lv_iconst (v := nI 4) hx hb dX4_writeHome_42 (by decide) ?_
              refine lv_iadd hx hb dX4_writeHome_43 ?_
              refine me_top (nI_add _ _) ?_
              refine lv_icmp_ge (tgt := 97) hx hb dX4_writeHome_44 (by decide) (fun c44 => ?_) (fun c44 => ?_)
              ·
                try have h44 := (nI_leI (by omega) (by omega)).mp c44
                exact kk36  s _ _ hP hD hS ls (lv_sub hl [1, 2, 3, 4, 5, 6] rfl) (by simp only [m_wh_36, if_pos c44]) 
              ·
                try have h44 := (not_congr (nI_leI (by omega) (by omega))).mp c44
                refine lv_aload_n hx hb dX4_writeHome_47 rfl (lv_at hl 2 rfl) ?_
                refine va_get (D := D) (ci := 4) (v := .ref (ad 2)) (C := RX4) (T := TX4) (N := 29) hx hb hts in4 hown hK hP 0 (me_get (by omega) (mm_0 cy ad _)) rfl 2 (by decide) k13 (fun _ h9 => h9) rfl dX4_writeHome_48 ?_
                refine lv_bipush (v := nI 16) hx hb dX4_writeHome_51 (by decide) ?_
                refine lv_iload_n hx hb dX4_writeHome_53 rfl (lv_at hl 3 rfl) ?_
                refine lv_imul hx hb dX4_writeHome_54 ?_
                refine me_top (pk_mul _ _) ?_
                refine lv_iload hx hb dX4_writeHome_55 (lv_at hl 0 rfl) ?_
                refine lv_iadd hx hb dX4_writeHome_57 ?_
                refine me_top (nI_add _ _) ?_
                refine lv_iload hx hb dX4_writeHome_58 (lv_at hl 6 rfl) ?_
                refine lv_if_eq (tgt := 78) hx hb dX4_writeHome_60 (by decide) (fun c60 => ?_) (fun c60 => ?_)
                ·
                  refine lv_aload_n hx hb dX4_writeHome_78 rfl (lv_at hl 2 rfl) ?_
                  refine va_get (D := D) (ci := 4) (v := .ref (ad 5)) (C := RX4) (T := TX4) (N := 29) hx hb hts in4 hown hK hP 0 (me_get (by omega) (mm_0 cy ad _)) rfl 5 (by decide) k22 (fun _ h9 => h9) rfl dX4_writeHome_79 ?_
                  refine lv_bipush (v := nI 16) hx hb dX4_writeHome_82 (by decide) ?_
                  refine lv_iload_n hx hb dX4_writeHome_84 rfl (lv_at hl 5 rfl) ?_
                  refine lv_imul hx hb dX4_writeHome_85 ?_
                  refine me_top (pk_mul _ _) ?_
                  refine lv_iload hx hb dX4_writeHome_86 (lv_at hl 0 rfl) ?_
                  refine lv_iadd hx hb dX4_writeHome_88 ?_
                  refine me_top (nI_add _ _) ?_
                  refine me_iald hx hb hK hP 5 0 (by omega) (fun f => mm_5 cy ad f) rfl (16 * b + t) rfl (by omega) (by decide) dX4_writeHome_89 ?_
                  refine me_iast hx hb hK hP hD hS 2 0 (by omega) (fun f => mm_2 cy ad f) rfl (16 * a + t) rfl (by omega) (by decide) dX4_writeHome_90 (fun s90 H locs e90 hP hD hS => ?_)
                  refine lv_iinc (v := nI (t + 1)) (lv' := [(6, .int (nI (t + 1))), (5, .int (nI i)), (0, .ref (ad 0)), (1, .int (nI a)), (2, .int y), (3, .int (nI b)), (4, .int o)]) hx hb dX4_writeHome_91 hl (k := 0) rfl (me_inc _) (by decide) rfl (fun ls hl => ?_)
                  refine lv_goto (tgt := 36) hx hb dX4_writeHome_94 (by decide) ?_
                  exact ih i (t + 1) s90 _ _ hP hD hS ls (lv_sub hl [0, 1, 2, 3, 4, 5, 6] rfl) (by omega) (by omega) (by omega) (fun  s' H locs hP hD hS ls hl eJ  => kk36  s' H locs hP hD hS ls hl (by simp only [m_wh_36, if_neg c44, if_pos c60, e90]; exact eJ) )
                ·
                  refine lv_aload_n hx hb dX4_writeHome_63 rfl (lv_at hl 2 rfl) ?_
                  refine va_get (D := D) (ci := 4) (v := .ref (ad 14)) (C := RX4) (T := TX4) (N := 29) hx hb hts in4 hown hK hP 0 (me_get (by omega) (mm_0 cy ad _)) rfl 15 (by decide) k54 (fun _ h9 => h9) rfl dX4_writeHome_64 ?_
                  refine lv_bipush (v := nI 16) hx hb dX4_writeHome_67 (by decide) ?_
                  refine lv_iload_n hx hb dX4_writeHome_69 rfl (lv_at hl 5 rfl) ?_
                  refine lv_imul hx hb dX4_writeHome_70 ?_
                  refine me_top (pk_mul _ _) ?_
                  refine lv_iload hx hb dX4_writeHome_71 (lv_at hl 0 rfl) ?_
                  refine lv_iadd hx hb dX4_writeHome_73 ?_
                  refine me_top (nI_add _ _) ?_
                  refine me_iald hx hb hK hP 14 0 (by omega) (fun f => mm_14 cy ad f) rfl (16 * b + t) rfl (by omega) (by decide) dX4_writeHome_74 ?_
                  refine lv_goto (tgt := 90) hx hb dX4_writeHome_75 (by decide) ?_
                  refine me_iast hx hb hK hP hD hS 2 0 (by omega) (fun f => mm_2 cy ad f) rfl (16 * a + t) rfl (by omega) (by decide) dX4_writeHome_90 (fun s90 H locs e90 hP hD hS => ?_)
                  refine lv_iinc (v := nI (t + 1)) (lv' := [(6, .int (nI (t + 1))), (5, .int (nI i)), (0, .ref (ad 0)), (1, .int (nI a)), (2, .int y), (3, .int (nI b)), (4, .int o)]) hx hb dX4_writeHome_91 hl (k := 0) rfl (me_inc _) (by decide) rfl (fun ls hl => ?_)
                  refine lv_goto (tgt := 36) hx hb dX4_writeHome_94 (by decide) ?_
                  exact ih i (t + 1) s90 _ _ hP hD hS ls (lv_sub hl [0, 1, 2, 3, 4, 5, 6] rfl) (by omega) (by omega) (by omega) (fun  s' H locs hP hD hS ls hl eJ  => kk36  s' H locs hP hD hS ls hl (by simp only [m_wh_36, if_neg c44, if_neg c60, e90]; exact eJ) )
          refine J36 5 i (4 * i) s29 _ _ hP hD hS ls (lv_sub hl [0, 1, 2, 3, 4, 5, 6] rfl) (by omega) (by omega) (by omega) (fun  s36 H locs hP hD hS ls hl e36  => ?_)
          refine lv_iinc (v := nI (i + 1)) (lv' := [(5, .int (nI (i + 1))), (0, .ref (ad 0)), (1, .int (nI a)), (2, .int y), (3, .int (nI b)), (4, .int o)]) hx hb dX4_writeHome_97 hl (k := 0) rfl (me_inc _) (by decide) rfl (fun ls hl => ?_)
          refine lv_goto (tgt := 3) hx hb dX4_writeHome_100 (by decide) ?_
          exact ih (i + 1) s36 _ _ hP hD hS ls (lv_sub hl [0, 1, 2, 3, 4, 5] rfl) (by omega) (by omega) (by rw [hf3]; simp only [m_wh_3, if_neg c6, e10, if_neg c13, e29, e36])
        ·
          refine lv_iconst (v := nI 0) hx hb dX4_writeHome_16 (by decide) ?_
          exact me_reti hx hb hr rfl hlocks hK hP hD hS (by rw [hf3]; simp only [m_wh_3, if_neg c6, e10, if_pos c13]) dX4_writeHome_17
  exact J3 5 0 σ _ _ hP hD hS ls (lv_sub hl [0, 1, 2, 3, 4, 5] rfl) (by omega) (by omega) (by simp only [m_wh])

def m_wb_60 : Nat → Nat → Nat → Nat → Nat → me_M → me_M
  | 0, a, b, i, t, s => (s)
  | n + 1, a, b, i, t, s => if nI (4 * i + 4) ≤ (nI t) then ((s)) else (let s94 := me_st s 5 (16 * a + t) (s 14 (16 * b + t)); m_wb_60 n a b i (t + 1) s94)
def m_wb_10 : Nat → Nat → Nat → Int32 → Nat → me_M → Int32 × me_M
  | 0, a, b, x, i, s => (0, s)
  | n + 1, a, b, x, i, s => if nI 4 ≤ (nI i) then ((nI 1, s)) else (let q17 := m_mw s; let r17 := q17.1; let s17 := q17.2; if r17 = 0 then ((nI 0, s17)) else (let s41 := me_st s17 3 (4 * a + i) (s17 11 b); let s53 := me_st s41 4 (4 * a + i) x; let s60 := m_wb_60 5 a b i (4 * i) s53; m_wb_10 n a b x (i + 1) s60))
def m_wb (a : Nat) (b : Nat) (σ : me_M) : Int32 × me_M := m_wb_10 5 a b (σ 10 b) 0 σ
set_option maxRecDepth 100000 in
set_option maxHeartbeats 4000000 in
theorem c_X4_writeBeside (l : Launch) (D : va_G) (cy : Nat → ClassId) (ad : Nat → Nat) (xr : va_W) (a : Nat) (b : Nat) (σ : me_M) (ha : a < 4) (hb4 : b < 4) (sz : Nat) : me_Ci l yX4_writeBeside wsX4_writeBeside ({ frames := 2, cells := 0, slots := 0, locals := 41 }) D (me_T cy) (mm_W cy ad xr) [.ref (ad 0), .int (nI a), .int (nI b)] sz σ (m_wb a b σ) := by
  refine Met.ofW (cc := cX4_writeBeside) (maxL := 6) (ret := (some .boolean)) (by decide) rfl ?_
  intro p e st m args below meth c s₁ B hml hv
  obtain ⟨rfl, hsz, hP, hK, hD0⟩ := hv
  have hx := B.exec
  have hb := B.bytes
  have hr := B.returns
  have hts := atoms_spec (ws := wsX4_writeBeside) B.pre
  have hown : st.vm.findClass RX4 = some m.cls := findClass_of_methodNamed B.named
  have hlocks := B.notSynchronized
  have in4 : ∀ w ∈ u_ws RX4 TX4 29, w ∈ wsX4_writeBeside := by decide +kernel
  have k16 := hts (.fieldLink RX4 16 "TwinWritesModel" "besideStamp" "[I") (by decide +kernel)
  have k19 := hts (.fieldLink RX4 19 "TwinWritesModel" "besidePage" "[I") (by decide +kernel)
  have k22 := hts (.fieldLink RX4 22 "TwinWritesModel" "besideWord" "[I") (by decide +kernel)
  have k41 := hts (.fieldLink RX4 41 "TwinWritesModel" "framePage" "[I") (by decide +kernel)
  have k44 := hts (.fieldLink RX4 44 "TwinWritesModel" "frameStamp" "[I") (by decide +kernel)
  have k54 := hts (.fieldLink RX4 54 "TwinWritesModel" "frameWord" "[I") (by decide +kernel)
  subst hsz
  have hD := hD0.self (sz := st.heap.size)
  have hA : ∀ q : Nat, st.heap.size ≤ q → va_A ((mm_W cy ad xr) σ) st.heap.size q := fun q h => Or.inr h
  have hS : va_S (va_A ((mm_W cy ad xr) σ) st.heap.size) st.heap st.heap [] := va_S.rf
  generalize va_A ((mm_W cy ad xr) σ) st.heap.size = A at hD hA hS ⊢
  have hl := lv_entry ([.ref (ad 0), .int (nI a), .int (nI b)]) (n := 6) (Nat.le_of_ble_eq_true rfl)
  rw [lg_entry_eq]
  generalize (lg_sl ([.ref (ad 0), .int (nI a), .int (nI b)]) ++ List.replicate (6 - (lg_sl ([.ref (ad 0), .int (nI a), .int (nI b)])).length) Slot.unset).toArray = ls at hl ⊢
  have hl : lv_has ls 6 [(0, .ref (ad 0)), (1, .int (nI a)), (2, .int (nI b))] := hl
  refine lv_aload_n hx hb dX4_writeBeside_0 rfl (lv_at hl 0 rfl) ?_
  refine va_get (D := D) (ci := 4) (v := .ref (ad 10)) (C := RX4) (T := TX4) (N := 29) hx hb hts in4 hown hK hP 0 (me_get (by omega) (mm_0 cy ad _)) rfl 11 (by decide) k41 (fun _ h9 => h9) rfl dX4_writeBeside_1 ?_
  refine lv_iload_n hx hb dX4_writeBeside_4 rfl (lv_at hl 2 rfl) ?_
  refine me_iald hx hb hK hP 10 0 (by omega) (fun f => mm_10 cy ad f) rfl b rfl (by omega) (by decide) dX4_writeBeside_5 ?_
  refine lv_istore_n (lv' := [(3, .int (σ 10 b)), (0, .ref (ad 0)), (1, .int (nI a)), (2, .int (nI b))]) hx hb dX4_writeBeside_6 rfl hl (by decide) rfl (fun ls hl => ?_)
  refine lv_iconst (v := nI 0) hx hb dX4_writeBeside_7 (by decide) ?_
  refine lv_istore (lv' := [(4, .int (nI 0)), (3, .int (σ 10 b)), (0, .ref (ad 0)), (1, .int (nI a)), (2, .int (nI b))]) hx hb dX4_writeBeside_8 hl (by decide) rfl (fun ls hl => ?_)
  have J10 : ∀ (n : Nat) (x : Int32) (i : Nat) (s : me_M) (H : Heap) (locs : List Loc) (hP : va_P D vwCl ((mm_W cy ad xr) s) H) (hD : va_D A ((mm_W cy ad xr) s)) (hS : va_S A st.heap H locs) (ls : Array Slot) (hl : lv_has ls 6 [(4, .int (nI i)), (3, .int x), (0, .ref (ad 0)), (1, .int (nI a)), (2, .int (nI b))]), ∀ (hi : i ≤ 4), ∀ (hn : 5 ≤ i + n), m_wb a b σ = m_wb_10 n a b x i s → W p l e (headSpec wsX4_writeBeside ({ frames := 2, cells := 0, slots := 0, locals := 41 })).room st m ([.ref (ad 0), .int (nI a), .int (nI b)] : List Value).toArray below meth c H locs 0 0 (MQ below (va_Qi (fun r σ' => (r, σ') = m_wb a b σ) (me_B D (me_T cy) A (mm_W cy ad xr)) A) ([.ref (ad 0), .int (nI a), .int (nI b)] : List Value).toArray st 0 0 A) (F0 m 10 ls []) := by
    intro n
    induction n with
    | zero => intro x i s H locs hP hD hS ls hl hi hn hf10; exfalso; omega
    | succ n ih =>
      intro x i s H locs hP hD hS ls hl hi hn hf10
      refine lv_iload hx hb dX4_writeBeside_10 (lv_at hl 0 rfl) ?_
      refine lv_iconst (v := nI 4) hx hb dX4_writeBeside_12 (by decide) ?_
      refine lv_icmp_ge (tgt := 107) hx hb dX4_writeBeside_13 (by decide) (fun c13 => ?_) (fun c13 => ?_)
      ·
        try have h13 := (nI_leI (by omega) (by omega)).mp c13
        refine lv_iconst (v := nI 1) hx hb dX4_writeBeside_107 (by decide) ?_
        exact me_reti hx hb hr rfl hlocks hK hP hD hS (by rw [hf10]; simp only [m_wb_10, if_pos c13]) dX4_writeBeside_108
      ·
        try have h13 := (not_congr (nI_leI (by omega) (by omega))).mp c13
        refine lv_aload_n hx hb dX4_writeBeside_16 rfl (lv_at hl 2 rfl) ?_
        refine me_calli (f := m_mw s) (w := (mm_W cy ad xr)) (σ := s) (As := []) (rest := []) ⟨hx, hb, hml, hown, hts⟩ (fun sz => c_X4_mayWrite l D cy ad xr  s  sz) (cwV 0 hts gX4_writeBeside_X4_mayWrite rfl rfl rfl (by decide +kernel) ⟨Nat.le_of_ble_eq_true rfl, Nat.le_of_ble_eq_true rfl⟩) (va_recv hK hP (ci := 4) (q0 := 0) rfl (me_get (by omega) (mm_0 cy ad _))) hK hP hD hS hA rfl hl.1 rfl (Nat.le_of_ble_eq_true rfl) dX4_writeBeside_17 ⟨Nat.zero_le _, Nat.zero_le _⟩ (fun r17 s17 H locs e17 hP hD hS => ?_)
        refine lv_if_ne (tgt := 25) hx hb dX4_writeBeside_20 (by decide) (fun c20 => ?_) (fun c20 => ?_)
        ·
          refine lv_aload_n hx hb dX4_writeBeside_25 rfl (lv_at hl 2 rfl) ?_
          refine va_get (D := D) (ci := 4) (v := .ref (ad 3)) (C := RX4) (T := TX4) (N := 29) hx hb hts in4 hown hK hP 0 (me_get (by omega) (mm_0 cy ad _)) rfl 3 (by decide) k16 (fun _ h9 => h9) rfl dX4_writeBeside_26 ?_
          refine lv_iconst (v := nI 4) hx hb dX4_writeBeside_29 (by decide) ?_
          refine lv_iload_n hx hb dX4_writeBeside_30 rfl (lv_at hl 3 rfl) ?_
          refine lv_imul hx hb dX4_writeBeside_31 ?_
          refine me_top (pk_mul _ _) ?_
          refine lv_iload hx hb dX4_writeBeside_32 (lv_at hl 0 rfl) ?_
          refine lv_iadd hx hb dX4_writeBeside_34 ?_
          refine me_top (nI_add _ _) ?_
          refine lv_aload_n hx hb dX4_writeBeside_35 rfl (lv_at hl 2 rfl) ?_
          refine va_get (D := D) (ci := 4) (v := .ref (ad 11)) (C := RX4) (T := TX4) (N := 29) hx hb hts in4 hown hK hP 0 (me_get (by omega) (mm_0 cy ad _)) rfl 12 (by decide) k44 (fun _ h9 => h9) rfl dX4_writeBeside_36 ?_
          refine lv_iload_n hx hb dX4_writeBeside_39 rfl (lv_at hl 4 rfl) ?_
          refine me_iald hx hb hK hP 11 0 (by omega) (fun f => mm_11 cy ad f) rfl b rfl (by omega) (by decide) dX4_writeBeside_40 ?_
          refine me_iast hx hb hK hP hD hS 3 0 (by omega) (fun f => mm_3 cy ad f) rfl (4 * a + i) rfl (by omega) (by decide) dX4_writeBeside_41 (fun s41 H locs e41 hP hD hS => ?_)
          refine lv_aload_n hx hb dX4_writeBeside_42 rfl (lv_at hl 2 rfl) ?_
          refine va_get (D := D) (ci := 4) (v := .ref (ad 4)) (C := RX4) (T := TX4) (N := 29) hx hb hts in4 hown hK hP 0 (me_get (by omega) (mm_0 cy ad _)) rfl 4 (by decide) k19 (fun _ h9 => h9) rfl dX4_writeBeside_43 ?_
          refine lv_iconst (v := nI 4) hx hb dX4_writeBeside_46 (by decide) ?_
          refine lv_iload_n hx hb dX4_writeBeside_47 rfl (lv_at hl 3 rfl) ?_
          refine lv_imul hx hb dX4_writeBeside_48 ?_
          refine me_top (pk_mul _ _) ?_
          refine lv_iload hx hb dX4_writeBeside_49 (lv_at hl 0 rfl) ?_
          refine lv_iadd hx hb dX4_writeBeside_51 ?_
          refine me_top (nI_add _ _) ?_
          refine lv_iload_n hx hb dX4_writeBeside_52 rfl (lv_at hl 1 rfl) ?_
          refine me_iast hx hb hK hP hD hS 4 0 (by omega) (fun f => mm_4 cy ad f) rfl (4 * a + i) rfl (by omega) (by decide) dX4_writeBeside_53 (fun s53 H locs e53 hP hD hS => ?_)
          refine lv_iconst (v := nI 4) hx hb dX4_writeBeside_54 (by decide) ?_
          refine lv_iload hx hb dX4_writeBeside_55 (lv_at hl 0 rfl) ?_
          refine lv_imul hx hb dX4_writeBeside_57 ?_
          refine me_top (pk_mul _ _) ?_
          refine lv_istore (lv' := [(5, .int (nI (4 * i))), (4, .int (nI i)), (3, .int x), (0, .ref (ad 0)), (1, .int (nI a)), (2, .int (nI b))]) hx hb dX4_writeBeside_58 hl (by decide) rfl (fun ls hl => ?_)
          have J60 : ∀ (n : Nat) (i : Nat) (t : Nat) (s : me_M) (H : Heap) (locs : List Loc) (hP : va_P D vwCl ((mm_W cy ad xr) s) H) (hD : va_D A ((mm_W cy ad xr) s)) (hS : va_S A st.heap H locs) (ls : Array Slot) (hl : lv_has ls 6 [(5, .int (nI t)), (4, .int (nI i)), (3, .int x), (0, .ref (ad 0)), (1, .int (nI a)), (2, .int (nI b))]), ∀ (hi : i < 4), ∀ (ht : 4 * i ≤ t ∧ t ≤ 4 * i + 4), ∀ (hn : 4 * i + 5 ≤ t + n), (∀  (s' : me_M) (H : Heap) (locs : List Loc) (hP : va_P D vwCl ((mm_W cy ad xr) s') H) (hD : va_D A ((mm_W cy ad xr) s')) (hS : va_S A st.heap H locs) (ls : Array Slot) (hl : lv_has ls 6 [(4, .int (nI i)), (3, .int x), (0, .ref (ad 0)), (1, .int (nI a)), (2, .int (nI b))]) (eJ : m_wb_60 n a b i t s = (s')) , W p l e (headSpec wsX4_writeBeside ({ frames := 2, cells := 0, slots := 0, locals := 41 })).room st m ([.ref (ad 0), .int (nI a), .int (nI b)] : List Value).toArray below meth c H locs 0 0 (MQ below (va_Qi (fun r σ' => (r, σ') = m_wb a b σ) (me_B D (me_T cy) A (mm_W cy ad xr)) A) ([.ref (ad 0), .int (nI a), .int (nI b)] : List Value).toArray st 0 0 A) (F0 m 101 ls [])) → W p l e (headSpec wsX4_writeBeside ({ frames := 2, cells := 0, slots := 0, locals := 41 })).room st m ([.ref (ad 0), .int (nI a), .int (nI b)] : List Value).toArray below meth c H locs 0 0 (MQ below (va_Qi (fun r σ' => (r, σ') = m_wb a b σ) (me_B D (me_T cy) A (mm_W cy ad xr)) A) ([.ref (ad 0), .int (nI a), .int (nI b)] : List Value).toArray st 0 0 A) (F0 m 60 ls []) := by
            intro n
            induction n with
            | zero => intro i t s H locs hP hD hS ls hl hi ht hn kk60; exfalso; omega
            | succ n ih =>
              intro i t s H locs hP hD hS ls hl hi ht hn kk60
              refine lv_iload hx hb dX4_writeBeside_60 (lv_at hl 0 rfl) ?_
              refine lv_iconst (v := nI 4) hx hb dX4_writeBeside_62 (by decide) ?_
              refine lv_iload hx hb dX4_writeBeside_63 (lv_at hl 1 rfl) ?_
              refine lv_imul hx hb dX4_writeBeside_65 ?_
              refine me_top (pk_mul _ _) ?_
              refine lv_iconst (v := nI 4) hx hb dX4_writeBeside_66 (by decide) ?_
              refine lv_iadd hx hb dX4_writeBeside_67 ?_
              refine me_top (nI_add _ _) ?_
              refine lv_icmp_ge (tgt := 101) hx hb dX4_writeBeside_68 (by decide) (fun c68 => ?_) (fun c68 => ?_)
              ·
                try have h68 := (nI_leI (by omega) (by omega)).mp c68
                exact kk60  s _ _ hP hD hS ls (lv_sub hl [1, 2, 3, 4, 5] rfl) (by simp only [m_wb_60, if_pos c68]) 
              ·
                try have h68 := (not_congr (nI_leI (by omega) (by omega))).mp c68
                refine lv_aload_n hx hb dX4_writeBeside_71 rfl (lv_at hl 3 rfl) ?_
                refine va_get (D := D) (ci := 4) (v := .ref (ad 5)) (C := RX4) (T := TX4) (N := 29) hx hb hts in4 hown hK hP 0 (me_get (by omega) (mm_0 cy ad _)) rfl 5 (by decide) k22 (fun _ h9 => h9) rfl dX4_writeBeside_72 ?_
                refine lv_bipush (v := nI 16) hx hb dX4_writeBeside_75 (by decide) ?_
                refine lv_iload_n hx hb dX4_writeBeside_77 rfl (lv_at hl 4 rfl) ?_
                refine lv_imul hx hb dX4_writeBeside_78 ?_
                refine me_top (pk_mul _ _) ?_
                refine lv_iload hx hb dX4_writeBeside_79 (lv_at hl 0 rfl) ?_
                refine lv_iadd hx hb dX4_writeBeside_81 ?_
                refine me_top (nI_add _ _) ?_
                refine lv_aload_n hx hb dX4_writeBeside_82 rfl (lv_at hl 3 rfl) ?_
                refine va_get (D := D) (ci := 4) (v := .ref (ad 14)) (C := RX4) (T := TX4) (N := 29) hx hb hts in4 hown hK hP 0 (me_get (by omega) (mm_0 cy ad _)) rfl 15 (by decide) k54 (fun _ h9 => h9) rfl dX4_writeBeside_83 ?_
                refine lv_bipush (v := nI 16) hx hb dX4_writeBeside_86 (by decide) ?_
                refine lv_iload_n hx hb dX4_writeBeside_88 rfl (lv_at hl 5 rfl) ?_
                refine lv_imul hx hb dX4_writeBeside_89 ?_
                refine me_top (pk_mul _ _) ?_
                refine lv_iload hx hb dX4_writeBeside_90 (lv_at hl 0 rfl) ?_
                refine lv_iadd hx hb dX4_writeBeside_92 ?_
                refine me_top (nI_add _ _) ?_
                refine me_iald hx hb hK hP 14 0 (by omega) (fun f => mm_14 cy ad f) rfl (16 * b + t) rfl (by omega) (by decide) dX4_writeBeside_93 ?_
                refine me_iast hx hb hK hP hD hS 5 0 (by omega) (fun f => mm_5 cy ad f) rfl (16 * a + t) rfl (by omega) (by decide) dX4_writeBeside_94 (fun s94 H locs e94 hP hD hS => ?_)
                refine lv_iinc (v := nI (t + 1)) (lv' := [(5, .int (nI (t + 1))), (4, .int (nI i)), (3, .int x), (0, .ref (ad 0)), (1, .int (nI a)), (2, .int (nI b))]) hx hb dX4_writeBeside_95 hl (k := 0) rfl (me_inc _) (by decide) rfl (fun ls hl => ?_)
                refine lv_goto (tgt := 60) hx hb dX4_writeBeside_98 (by decide) ?_
                exact ih i (t + 1) s94 _ _ hP hD hS ls (lv_sub hl [0, 1, 2, 3, 4, 5] rfl) (by omega) (by omega) (by omega) (fun  s' H locs hP hD hS ls hl eJ  => kk60  s' H locs hP hD hS ls hl (by simp only [m_wb_60, if_neg c68, e94]; exact eJ) )
          refine J60 5 i (4 * i) s53 _ _ hP hD hS ls (lv_sub hl [0, 1, 2, 3, 4, 5] rfl) (by omega) (by omega) (by omega) (fun  s60 H locs hP hD hS ls hl e60  => ?_)
          refine lv_iinc (v := nI (i + 1)) (lv' := [(4, .int (nI (i + 1))), (3, .int x), (0, .ref (ad 0)), (1, .int (nI a)), (2, .int (nI b))]) hx hb dX4_writeBeside_101 hl (k := 0) rfl (me_inc _) (by decide) rfl (fun ls hl => ?_)
          refine lv_goto (tgt := 10) hx hb dX4_writeBeside_104 (by decide) ?_
          exact ih x (i + 1) s60 _ _ hP hD hS ls (lv_sub hl [0, 1, 2, 3, 4] rfl) (by omega) (by omega) (by rw [hf10]; simp only [m_wb_10, if_neg c13, e17, if_neg c20, e41, e53, e60])
        ·
          refine lv_iconst (v := nI 0) hx hb dX4_writeBeside_23 (by decide) ?_
          exact me_reti hx hb hr rfl hlocks hK hP hD hS (by rw [hf10]; simp only [m_wb_10, if_neg c13, e17, if_pos c20]) dX4_writeBeside_24
  exact J10 5 (σ 10 b) 0 σ _ _ hP hD hS ls (lv_sub hl [0, 1, 2, 3, 4] rfl) (by omega) (by omega) (by simp only [m_wb])

def m_ihw (a : Nat) (σ : me_M) : Int32 := if (σ 1 (4 * a)) = σ 1 (4 * a + 1) then (if (σ 1 (4 * a)) = σ 1 (4 * a + 2) then (if (σ 1 (4 * a)) = σ 1 (4 * a + 3) then (nI 1) else (nI 0)) else (nI 0)) else (nI 0)
set_option maxRecDepth 100000 in
set_option maxHeartbeats 4000000 in
theorem c_X4_isHomeWhole (l : Launch) (D : va_G) (cy : Nat → ClassId) (ad : Nat → Nat) (xr : va_W) (a : Nat) (σ : me_M) (ha : a < 12) (sz : Nat) : me_Ci l yX4_isHomeWhole wsX4_isHomeWhole ({ frames := 0, cells := 0, slots := 0, locals := 0 }) D (me_T cy) (mm_W cy ad xr) [.ref (ad 0), .int (nI a)] sz σ (m_ihw a σ, σ) := by
  refine Met.ofW (cc := cX4_isHomeWhole) (maxL := 3) (ret := (some .boolean)) (by decide) rfl ?_
  intro p e st m args below meth c s₁ B hml hv
  obtain ⟨rfl, hsz, hP, hK, hD0⟩ := hv
  have hx := B.exec
  have hb := B.bytes
  have hr := B.returns
  have hts := atoms_spec (ws := wsX4_isHomeWhole) B.pre
  have hown : st.vm.findClass RX4 = some m.cls := findClass_of_methodNamed B.named
  have hlocks := B.notSynchronized
  have in4 : ∀ w ∈ u_ws RX4 TX4 29, w ∈ wsX4_isHomeWhole := by decide +kernel
  have k7 := hts (.fieldLink RX4 7 "TwinWritesModel" "homeStamp" "[I") (by decide +kernel)
  subst hsz
  have hD := hD0.self (sz := st.heap.size)
  have hA : ∀ q : Nat, st.heap.size ≤ q → va_A ((mm_W cy ad xr) σ) st.heap.size q := fun q h => Or.inr h
  have hS : va_S (va_A ((mm_W cy ad xr) σ) st.heap.size) st.heap st.heap [] := va_S.rf
  generalize va_A ((mm_W cy ad xr) σ) st.heap.size = A at hD hA hS ⊢
  have hl := lv_entry ([.ref (ad 0), .int (nI a)]) (n := 3) (Nat.le_of_ble_eq_true rfl)
  rw [lg_entry_eq]
  generalize (lg_sl ([.ref (ad 0), .int (nI a)]) ++ List.replicate (3 - (lg_sl ([.ref (ad 0), .int (nI a)])).length) Slot.unset).toArray = ls at hl ⊢
  have hl : lv_has ls 3 [(0, .ref (ad 0)), (1, .int (nI a))] := hl
  refine lv_iconst (v := nI 4) hx hb dX4_isHomeWhole_0 (by decide) ?_
  refine lv_iload_n hx hb dX4_isHomeWhole_1 rfl (lv_at hl 1 rfl) ?_
  refine lv_imul hx hb dX4_isHomeWhole_2 ?_
  refine me_top (pk_mul _ _) ?_
  refine lv_istore_n (lv' := [(2, .int (nI (4 * a))), (0, .ref (ad 0)), (1, .int (nI a))]) hx hb dX4_isHomeWhole_3 rfl hl (by decide) rfl (fun ls hl => ?_)
  refine lv_aload_n hx hb dX4_isHomeWhole_4 rfl (lv_at hl 1 rfl) ?_
  refine va_get (D := D) (ci := 4) (v := .ref (ad 1)) (C := RX4) (T := TX4) (N := 29) hx hb hts in4 hown hK hP 0 (me_get (by omega) (mm_0 cy ad _)) rfl 1 (by decide) k7 (fun _ h9 => h9) rfl dX4_isHomeWhole_5 ?_
  refine lv_iload_n hx hb dX4_isHomeWhole_8 rfl (lv_at hl 0 rfl) ?_
  refine me_iald hx hb hK hP 1 0 (by omega) (fun f => mm_1 cy ad f) rfl (4 * a) rfl (by omega) (by decide) dX4_isHomeWhole_9 ?_
  refine lv_aload_n hx hb dX4_isHomeWhole_10 rfl (lv_at hl 1 rfl) ?_
  refine va_get (D := D) (ci := 4) (v := .ref (ad 1)) (C := RX4) (T := TX4) (N := 29) hx hb hts in4 hown hK hP 0 (me_get (by omega) (mm_0 cy ad _)) rfl 1 (by decide) k7 (fun _ h9 => h9) rfl dX4_isHomeWhole_11 ?_
  refine lv_iload_n hx hb dX4_isHomeWhole_14 rfl (lv_at hl 0 rfl) ?_
  refine lv_iconst (v := nI 1) hx hb dX4_isHomeWhole_15 (by decide) ?_
  refine lv_iadd hx hb dX4_isHomeWhole_16 ?_
  refine me_top (nI_add _ _) ?_
  refine me_iald hx hb hK hP 1 0 (by omega) (fun f => mm_1 cy ad f) rfl (4 * a + 1) rfl (by omega) (by decide) dX4_isHomeWhole_17 ?_
  refine lv_icmp_ne (tgt := 59) hx hb dX4_isHomeWhole_18 (by decide) (fun c18 => ?_) (fun c18 => ?_)
  ·
    refine lv_iconst (v := nI 0) hx hb dX4_isHomeWhole_59 (by decide) ?_
    exact me_retr hx hb hr rfl hlocks hK hP hD hS (by simp only [m_ihw, if_neg c18]) dX4_isHomeWhole_60
  ·
    refine lv_aload_n hx hb dX4_isHomeWhole_21 rfl (lv_at hl 1 rfl) ?_
    refine va_get (D := D) (ci := 4) (v := .ref (ad 1)) (C := RX4) (T := TX4) (N := 29) hx hb hts in4 hown hK hP 0 (me_get (by omega) (mm_0 cy ad _)) rfl 1 (by decide) k7 (fun _ h9 => h9) rfl dX4_isHomeWhole_22 ?_
    refine lv_iload_n hx hb dX4_isHomeWhole_25 rfl (lv_at hl 0 rfl) ?_
    refine me_iald hx hb hK hP 1 0 (by omega) (fun f => mm_1 cy ad f) rfl (4 * a) rfl (by omega) (by decide) dX4_isHomeWhole_26 ?_
    refine lv_aload_n hx hb dX4_isHomeWhole_27 rfl (lv_at hl 1 rfl) ?_
    refine va_get (D := D) (ci := 4) (v := .ref (ad 1)) (C := RX4) (T := TX4) (N := 29) hx hb hts in4 hown hK hP 0 (me_get (by omega) (mm_0 cy ad _)) rfl 1 (by decide) k7 (fun _ h9 => h9) rfl dX4_isHomeWhole_28 ?_
    refine lv_iload_n hx hb dX4_isHomeWhole_31 rfl (lv_at hl 0 rfl) ?_
    refine lv_iconst (v := nI 2) hx hb dX4_isHomeWhole_32 (by decide) ?_
    refine lv_iadd hx hb dX4_isHomeWhole_33 ?_
    refine me_top (nI_add _ _) ?_
    refine me_iald hx hb hK hP 1 0 (by omega) (fun f => mm_1 cy ad f) rfl (4 * a + 2) rfl (by omega) (by decide) dX4_isHomeWhole_34 ?_
    refine lv_icmp_ne (tgt := 59) hx hb dX4_isHomeWhole_35 (by decide) (fun c35 => ?_) (fun c35 => ?_)
    ·
      refine lv_iconst (v := nI 0) hx hb dX4_isHomeWhole_59 (by decide) ?_
      exact me_retr hx hb hr rfl hlocks hK hP hD hS (by simp only [m_ihw, if_pos c18, if_neg c35]) dX4_isHomeWhole_60
    ·
      refine lv_aload_n hx hb dX4_isHomeWhole_38 rfl (lv_at hl 1 rfl) ?_
      refine va_get (D := D) (ci := 4) (v := .ref (ad 1)) (C := RX4) (T := TX4) (N := 29) hx hb hts in4 hown hK hP 0 (me_get (by omega) (mm_0 cy ad _)) rfl 1 (by decide) k7 (fun _ h9 => h9) rfl dX4_isHomeWhole_39 ?_
      refine lv_iload_n hx hb dX4_isHomeWhole_42 rfl (lv_at hl 0 rfl) ?_
      refine me_iald hx hb hK hP 1 0 (by omega) (fun f => mm_1 cy ad f) rfl (4 * a) rfl (by omega) (by decide) dX4_isHomeWhole_43 ?_
      refine lv_aload_n hx hb dX4_isHomeWhole_44 rfl (lv_at hl 1 rfl) ?_
      refine va_get (D := D) (ci := 4) (v := .ref (ad 1)) (C := RX4) (T := TX4) (N := 29) hx hb hts in4 hown hK hP 0 (me_get (by omega) (mm_0 cy ad _)) rfl 1 (by decide) k7 (fun _ h9 => h9) rfl dX4_isHomeWhole_45 ?_
      refine lv_iload_n hx hb dX4_isHomeWhole_48 rfl (lv_at hl 0 rfl) ?_
      refine lv_iconst (v := nI 3) hx hb dX4_isHomeWhole_49 (by decide) ?_
      refine lv_iadd hx hb dX4_isHomeWhole_50 ?_
      refine me_top (nI_add _ _) ?_
      refine me_iald hx hb hK hP 1 0 (by omega) (fun f => mm_1 cy ad f) rfl (4 * a + 3) rfl (by omega) (by decide) dX4_isHomeWhole_51 ?_
      refine lv_icmp_ne (tgt := 59) hx hb dX4_isHomeWhole_52 (by decide) (fun c52 => ?_) (fun c52 => ?_)
      ·
        refine lv_iconst (v := nI 0) hx hb dX4_isHomeWhole_59 (by decide) ?_
        exact me_retr hx hb hr rfl hlocks hK hP hD hS (by simp only [m_ihw, if_pos c18, if_pos c35, if_neg c52]) dX4_isHomeWhole_60
      ·
        refine lv_iconst (v := nI 1) hx hb dX4_isHomeWhole_55 (by decide) ?_
        refine lv_goto (tgt := 60) hx hb dX4_isHomeWhole_56 (by decide) ?_
        exact me_retr hx hb hr rfl hlocks hK hP hD hS (by simp only [m_ihw, if_pos c18, if_pos c35, if_pos c52]) dX4_isHomeWhole_60

def m_isw_4 : Nat → Nat → Int32 → Nat → me_M → Int32
  | 0, a, v, i, s => (0)
  | n + 1, a, v, i, s => if nI 4 ≤ (nI i) then ((v)) else (if v = 0 then (m_isw_4 n a (nI 0) (i + 1) s) else (if (s 3 (4 * a + i)) = s 3 (4 * a) then (if (s 4 (4 * a + i)) = s 4 (4 * a) then (m_isw_4 n a (nI 1) (i + 1) s) else (m_isw_4 n a (nI 0) (i + 1) s)) else (m_isw_4 n a (nI 0) (i + 1) s)))
def m_isw (a : Nat) (σ : me_M) : Int32 := let v4 := m_isw_4 4 a (nI 1) 1 σ; v4
set_option maxRecDepth 100000 in
set_option maxHeartbeats 4000000 in
theorem c_X4_isSlotWhole (l : Launch) (D : va_G) (cy : Nat → ClassId) (ad : Nat → Nat) (xr : va_W) (a : Nat) (σ : me_M) (ha : a < 4) (sz : Nat) : me_Ci l yX4_isSlotWhole wsX4_isSlotWhole ({ frames := 0, cells := 0, slots := 0, locals := 0 }) D (me_T cy) (mm_W cy ad xr) [.ref (ad 0), .int (nI a)] sz σ (m_isw a σ, σ) := by
  refine Met.ofW (cc := cX4_isSlotWhole) (maxL := 4) (ret := (some .boolean)) (by decide) rfl ?_
  intro p e st m args below meth c s₁ B hml hv
  obtain ⟨rfl, hsz, hP, hK, hD0⟩ := hv
  have hx := B.exec
  have hb := B.bytes
  have hr := B.returns
  have hts := atoms_spec (ws := wsX4_isSlotWhole) B.pre
  have hown : st.vm.findClass RX4 = some m.cls := findClass_of_methodNamed B.named
  have hlocks := B.notSynchronized
  have in4 : ∀ w ∈ u_ws RX4 TX4 29, w ∈ wsX4_isSlotWhole := by decide +kernel
  have k16 := hts (.fieldLink RX4 16 "TwinWritesModel" "besideStamp" "[I") (by decide +kernel)
  have k19 := hts (.fieldLink RX4 19 "TwinWritesModel" "besidePage" "[I") (by decide +kernel)
  subst hsz
  have hD := hD0.self (sz := st.heap.size)
  have hA : ∀ q : Nat, st.heap.size ≤ q → va_A ((mm_W cy ad xr) σ) st.heap.size q := fun q h => Or.inr h
  have hS : va_S (va_A ((mm_W cy ad xr) σ) st.heap.size) st.heap st.heap [] := va_S.rf
  generalize va_A ((mm_W cy ad xr) σ) st.heap.size = A at hD hA hS ⊢
  have hl := lv_entry ([.ref (ad 0), .int (nI a)]) (n := 4) (Nat.le_of_ble_eq_true rfl)
  rw [lg_entry_eq]
  generalize (lg_sl ([.ref (ad 0), .int (nI a)]) ++ List.replicate (4 - (lg_sl ([.ref (ad 0), .int (nI a)])).length) Slot.unset).toArray = ls at hl ⊢
  have hl : lv_has ls 4 [(0, .ref (ad 0)), (1, .int (nI a))] := hl
  refine lv_iconst (v := nI 1) hx hb dX4_isSlotWhole_0 (by decide) ?_
  refine lv_istore_n (lv' := [(2, .int (nI 1)), (0, .ref (ad 0)), (1, .int (nI a))]) hx hb dX4_isSlotWhole_1 rfl hl (by decide) rfl (fun ls hl => ?_)
  refine lv_iconst (v := nI 1) hx hb dX4_isSlotWhole_2 (by decide) ?_
  refine lv_istore_n (lv' := [(3, .int (nI 1)), (2, .int (nI 1)), (0, .ref (ad 0)), (1, .int (nI a))]) hx hb dX4_isSlotWhole_3 rfl hl (by decide) rfl (fun ls hl => ?_)
  have J4 : ∀ (n : Nat) (v : Int32) (i : Nat) (H : Heap) (locs : List Loc) (hP : va_P D vwCl ((mm_W cy ad xr) σ) H) (hD : va_D A ((mm_W cy ad xr) σ)) (hS : va_S A st.heap H locs) (ls : Array Slot) (hl : lv_has ls 4 [(3, .int (nI i)), (2, .int v), (0, .ref (ad 0)), (1, .int (nI a))]), ∀ (hv : v = nI 0 ∨ v = nI 1), ∀ (hi : 1 ≤ i ∧ i ≤ 4), ∀ (hn : 5 ≤ i + n), (∀ (v' : Int32) (H : Heap) (locs : List Loc) (hP : va_P D vwCl ((mm_W cy ad xr) σ) H) (hD : va_D A ((mm_W cy ad xr) σ)) (hS : va_S A st.heap H locs) (ls : Array Slot) (hl : lv_has ls 4 [(2, .int v'), (0, .ref (ad 0)), (1, .int (nI a))]) (eJ : m_isw_4 n a v i σ = (v')) (hv : v' = nI 0 ∨ v' = nI 1), W p l e (headSpec wsX4_isSlotWhole ({ frames := 0, cells := 0, slots := 0, locals := 0 })).room st m ([.ref (ad 0), .int (nI a)] : List Value).toArray below meth c H locs 0 0 (MQ below (va_Qi (fun r σ' => (r, σ') = (m_isw a σ, σ)) (me_B D (me_T cy) A (mm_W cy ad xr)) A) ([.ref (ad 0), .int (nI a)] : List Value).toArray st 0 0 A) (F0 m 67 ls [])) → W p l e (headSpec wsX4_isSlotWhole ({ frames := 0, cells := 0, slots := 0, locals := 0 })).room st m ([.ref (ad 0), .int (nI a)] : List Value).toArray below meth c H locs 0 0 (MQ below (va_Qi (fun r σ' => (r, σ') = (m_isw a σ, σ)) (me_B D (me_T cy) A (mm_W cy ad xr)) A) ([.ref (ad 0), .int (nI a)] : List Value).toArray st 0 0 A) (F0 m 4 ls []) := by
    intro n
    induction n with
    | zero => intro v i H locs hP hD hS ls hl hv hi hn kk4; exfalso; omega
    | succ n ih =>
      intro v i H locs hP hD hS ls hl hv hi hn kk4
      refine lv_iload_n hx hb dX4_isSlotWhole_4 rfl (lv_at hl 0 rfl) ?_
      refine lv_iconst (v := nI 4) hx hb dX4_isSlotWhole_5 (by decide) ?_
      refine lv_icmp_ge (tgt := 67) hx hb dX4_isSlotWhole_6 (by decide) (fun c6 => ?_) (fun c6 => ?_)
      ·
        try have h6 := (nI_leI (by omega) (by omega)).mp c6
        exact kk4 v _ _ hP hD hS ls (lv_sub hl [1, 2, 3] rfl) (by simp only [m_isw_4, if_pos c6]) (hv)
      ·
        try have h6 := (not_congr (nI_leI (by omega) (by omega))).mp c6
        refine lv_iload_n hx hb dX4_isSlotWhole_9 rfl (lv_at hl 1 rfl) ?_
        refine lv_if_eq (tgt := 59) hx hb dX4_isSlotWhole_10 (by decide) (fun c10 => ?_) (fun c10 => ?_)
        ·
          refine lv_iconst (v := nI 0) hx hb dX4_isSlotWhole_59 (by decide) ?_
          refine lv_istore_n (lv' := [(2, .int (nI 0)), (3, .int (nI i)), (0, .ref (ad 0)), (1, .int (nI a))]) hx hb dX4_isSlotWhole_60 rfl hl (by decide) rfl (fun ls hl => ?_)
          refine lv_iinc (v := nI (i + 1)) (lv' := [(3, .int (nI (i + 1))), (2, .int (nI 0)), (0, .ref (ad 0)), (1, .int (nI a))]) hx hb dX4_isSlotWhole_61 hl (k := 1) rfl (me_inc _) (by decide) rfl (fun ls hl => ?_)
          refine lv_goto (tgt := 4) hx hb dX4_isSlotWhole_64 (by decide) ?_
          exact ih (nI 0) (i + 1) _ _ hP hD hS ls (lv_sub hl [0, 1, 2, 3] rfl) (by first | exact hv | exact Or.inl rfl | exact Or.inr rfl) (by omega) (by omega) (fun v' H locs hP hD hS ls hl eJ hv => kk4 v' H locs hP hD hS ls hl (by simp only [m_isw_4, if_neg c6, if_pos c10]; exact eJ) hv)
        ·
          refine lv_aload_n hx hb dX4_isSlotWhole_13 rfl (lv_at hl 2 rfl) ?_
          refine va_get (D := D) (ci := 4) (v := .ref (ad 3)) (C := RX4) (T := TX4) (N := 29) hx hb hts in4 hown hK hP 0 (me_get (by omega) (mm_0 cy ad _)) rfl 3 (by decide) k16 (fun _ h9 => h9) rfl dX4_isSlotWhole_14 ?_
          refine lv_iconst (v := nI 4) hx hb dX4_isSlotWhole_17 (by decide) ?_
          refine lv_iload_n hx hb dX4_isSlotWhole_18 rfl (lv_at hl 3 rfl) ?_
          refine lv_imul hx hb dX4_isSlotWhole_19 ?_
          refine me_top (pk_mul _ _) ?_
          refine lv_iload_n hx hb dX4_isSlotWhole_20 rfl (lv_at hl 0 rfl) ?_
          refine lv_iadd hx hb dX4_isSlotWhole_21 ?_
          refine me_top (nI_add _ _) ?_
          refine me_iald hx hb hK hP 3 0 (by omega) (fun f => mm_3 cy ad f) rfl (4 * a + i) rfl (by omega) (by decide) dX4_isSlotWhole_22 ?_
          refine lv_aload_n hx hb dX4_isSlotWhole_23 rfl (lv_at hl 2 rfl) ?_
          refine va_get (D := D) (ci := 4) (v := .ref (ad 3)) (C := RX4) (T := TX4) (N := 29) hx hb hts in4 hown hK hP 0 (me_get (by omega) (mm_0 cy ad _)) rfl 3 (by decide) k16 (fun _ h9 => h9) rfl dX4_isSlotWhole_24 ?_
          refine lv_iconst (v := nI 4) hx hb dX4_isSlotWhole_27 (by decide) ?_
          refine lv_iload_n hx hb dX4_isSlotWhole_28 rfl (lv_at hl 3 rfl) ?_
          refine lv_imul hx hb dX4_isSlotWhole_29 ?_
          refine me_top (pk_mul _ _) ?_
          refine me_iald hx hb hK hP 3 0 (by omega) (fun f => mm_3 cy ad f) rfl (4 * a) rfl (by omega) (by decide) dX4_isSlotWhole_30 ?_
          refine lv_icmp_ne (tgt := 59) hx hb dX4_isSlotWhole_31 (by decide) (fun c31 => ?_) (fun c31 => ?_)
          ·
            refine lv_iconst (v := nI 0) hx hb dX4_isSlotWhole_59 (by decide) ?_
            refine lv_istore_n (lv' := [(2, .int (nI 0)), (3, .int (nI i)), (0, .ref (ad 0)), (1, .int (nI a))]) hx hb dX4_isSlotWhole_60 rfl hl (by decide) rfl (fun ls hl => ?_)
            refine lv_iinc (v := nI (i + 1)) (lv' := [(3, .int (nI (i + 1))), (2, .int (nI 0)), (0, .ref (ad 0)), (1, .int (nI a))]) hx hb dX4_isSlotWhole_61 hl (k := 1) rfl (me_inc _) (by decide) rfl (fun ls hl => ?_)
            refine lv_goto (tgt := 4) hx hb dX4_isSlotWhole_64 (by decide) ?_
            exact ih (nI 0) (i + 1) _ _ hP hD hS ls (lv_sub hl [0, 1, 2, 3] rfl) (by first | exact hv | exact Or.inl rfl | exact Or.inr rfl) (by omega) (by omega) (fun v' H locs hP hD hS ls hl eJ hv => kk4 v' H locs hP hD hS ls hl (by simp only [m_isw_4, if_neg c6, if_neg c10, if_neg c31]; exact eJ) hv)
          ·
            refine lv_aload_n hx hb dX4_isSlotWhole_34 rfl (lv_at hl 2 rfl) ?_
            refine va_get (D := D) (ci := 4) (v := .ref (ad 4)) (C := RX4) (T := TX4) (N := 29) hx hb hts in4 hown hK hP 0 (me_get (by omega) (mm_0 cy ad _)) rfl 4 (by decide) k19 (fun _ h9 => h9) rfl dX4_isSlotWhole_35 ?_
            refine lv_iconst (v := nI 4) hx hb dX4_isSlotWhole_38 (by decide) ?_
            refine lv_iload_n hx hb dX4_isSlotWhole_39 rfl (lv_at hl 3 rfl) ?_
            refine lv_imul hx hb dX4_isSlotWhole_40 ?_
            refine me_top (pk_mul _ _) ?_
            refine lv_iload_n hx hb dX4_isSlotWhole_41 rfl (lv_at hl 0 rfl) ?_
            refine lv_iadd hx hb dX4_isSlotWhole_42 ?_
            refine me_top (nI_add _ _) ?_
            refine me_iald hx hb hK hP 4 0 (by omega) (fun f => mm_4 cy ad f) rfl (4 * a + i) rfl (by omega) (by decide) dX4_isSlotWhole_43 ?_
            refine lv_aload_n hx hb dX4_isSlotWhole_44 rfl (lv_at hl 2 rfl) ?_
            refine va_get (D := D) (ci := 4) (v := .ref (ad 4)) (C := RX4) (T := TX4) (N := 29) hx hb hts in4 hown hK hP 0 (me_get (by omega) (mm_0 cy ad _)) rfl 4 (by decide) k19 (fun _ h9 => h9) rfl dX4_isSlotWhole_45 ?_
            refine lv_iconst (v := nI 4) hx hb dX4_isSlotWhole_48 (by decide) ?_
            refine lv_iload_n hx hb dX4_isSlotWhole_49 rfl (lv_at hl 3 rfl) ?_
            refine lv_imul hx hb dX4_isSlotWhole_50 ?_
            refine me_top (pk_mul _ _) ?_
            refine me_iald hx hb hK hP 4 0 (by omega) (fun f => mm_4 cy ad f) rfl (4 * a) rfl (by omega) (by decide) dX4_isSlotWhole_51 ?_
            refine lv_icmp_ne (tgt := 59) hx hb dX4_isSlotWhole_52 (by decide) (fun c52 => ?_) (fun c52 => ?_)
            ·
              refine lv_iconst (v := nI 0) hx hb dX4_isSlotWhole_59 (by decide) ?_
              refine lv_istore_n (lv' := [(2, .int (nI 0)), (3, .int (nI i)), (0, .ref (ad 0)), (1, .int (nI a))]) hx hb dX4_isSlotWhole_60 rfl hl (by decide) rfl (fun ls hl => ?_)
              refine lv_iinc (v := nI (i + 1)) (lv' := [(3, .int (nI (i + 1))), (2, .int (nI 0)), (0, .ref (ad 0)), (1, .int (nI a))]) hx hb dX4_isSlotWhole_61 hl (k := 1) rfl (me_inc _) (by decide) rfl (fun ls hl => ?_)
              refine lv_goto (tgt := 4) hx hb dX4_isSlotWhole_64 (by decide) ?_
              exact ih (nI 0) (i + 1) _ _ hP hD hS ls (lv_sub hl [0, 1, 2, 3] rfl) (by first | exact hv | exact Or.inl rfl | exact Or.inr rfl) (by omega) (by omega) (fun v' H locs hP hD hS ls hl eJ hv => kk4 v' H locs hP hD hS ls hl (by simp only [m_isw_4, if_neg c6, if_neg c10, if_pos c31, if_neg c52]; exact eJ) hv)
            ·
              refine lv_iconst (v := nI 1) hx hb dX4_isSlotWhole_55 (by decide) ?_
              refine lv_goto (tgt := 60) hx hb dX4_isSlotWhole_56 (by decide) ?_
              refine lv_istore_n (lv' := [(2, .int (nI 1)), (3, .int (nI i)), (0, .ref (ad 0)), (1, .int (nI a))]) hx hb dX4_isSlotWhole_60 rfl hl (by decide) rfl (fun ls hl => ?_)
              refine lv_iinc (v := nI (i + 1)) (lv' := [(3, .int (nI (i + 1))), (2, .int (nI 1)), (0, .ref (ad 0)), (1, .int (nI a))]) hx hb dX4_isSlotWhole_61 hl (k := 1) rfl (me_inc _) (by decide) rfl (fun ls hl => ?_)
              refine lv_goto (tgt := 4) hx hb dX4_isSlotWhole_64 (by decide) ?_
              exact ih (nI 1) (i + 1) _ _ hP hD hS ls (lv_sub hl [0, 1, 2, 3] rfl) (by first | exact hv | exact Or.inl rfl | exact Or.inr rfl) (by omega) (by omega) (fun v' H locs hP hD hS ls hl eJ hv => kk4 v' H locs hP hD hS ls hl (by simp only [m_isw_4, if_neg c6, if_neg c10, if_pos c31, if_pos c52]; exact eJ) hv)
  refine J4 4 (nI 1) 1 _ _ hP hD hS ls (lv_sub hl [0, 1, 2, 3] rfl) (Or.inr rfl) (by omega) (by omega) (fun v4 H locs hP hD hS ls hl e4 hv4 => ?_)
  refine lv_iload_n hx hb dX4_isSlotWhole_67 rfl (lv_at hl 0 rfl) ?_
  exact me_retr hx hb hr (me_nar hv4) hlocks hK hP hD hS (by simp only [m_isw, e4]) dX4_isSlotWhole_68
