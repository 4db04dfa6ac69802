def m_cl_114 : Nat → Int32 → Nat → me_M → Int32 × me_M
  | 0, o, i, s => (0, s)
  | n + 1, o, i, s => if nI 4 ≤ (nI i) then ((nI 1, s)) else (if (s 12 i) = 0 then (m_cl_114 n o (i + 1) s) else (if o = (-1) then (let s144 := me_st s 12 i (nI 0); let s152 := me_st s144 0 27 ((s144 0 27) + (nI 1)); m_cl_114 n o (i + 1) s152) else (if o = nI i then (let s144 := me_st s 12 i (nI 0); let s152 := me_st s144 0 27 ((s144 0 27) + (nI 1)); m_cl_114 n o (i + 1) s152) else (m_cl_114 n o (i + 1) s))))
def m_cl_59 : Nat → Int32 → Nat → me_M → Int32 × me_M
  | 0, o, i, s => (0, s)
  | n + 1, o, i, s => if nI 4 ≤ (nI i) then (m_cl_114 5 o 0 s) else (if (s 12 i) = 0 then (m_cl_59 n o (i + 1) s) else (if o = (-1) then (let q98 := m_wh ((s 10 i).toNatClampNeg) (s 11 i) i (nI 1) s; let r98 := q98.1; let s98 := q98.2; if r98 = 0 then ((nI 0, s98)) else (m_cl_59 n o (i + 1) s98)) else (if o = nI i then (let q98 := m_wh ((s 10 i).toNatClampNeg) (s 11 i) i (nI 1) s; let r98 := q98.1; let s98 := q98.2; if r98 = 0 then ((nI 0, s98)) else (m_cl_59 n o (i + 1) s98)) else (m_cl_59 n o (i + 1) s))))
def m_cl_13 : Nat → Int32 → Nat → Nat → me_M → Int32 × me_M
  | 0, o, z, i, s => (0, s)
  | n + 1, o, z, i, s => if nI 4 ≤ (nI i) then (m_cl_59 5 o 0 s) else (if (s 12 i) = 0 then (m_cl_13 n o z (i + 1) s) else (if o = (-1) then (let q40 := m_wb z i s; let r40 := q40.1; let s40 := q40.2; if r40 = 0 then ((nI 0, s40)) else (m_cl_13 n o (z + 1) (i + 1) s40)) else (if o = nI i then (let q40 := m_wb z i s; let r40 := q40.1; let s40 := q40.2; if r40 = 0 then ((nI 0, s40)) else (m_cl_13 n o (z + 1) (i + 1) s40)) else (m_cl_13 n o z (i + 1) s))))
def m_cl (o : Int32) (σ : me_M) : Int32 × me_M := let q1 := m_lw σ; let r1 := q1.1; let s1 := q1.2; if r1 = 0 then ((nI 0, s1)) else (m_cl_13 5 o 0 0 s1)
set_option maxRecDepth 100000 in
set_option maxHeartbeats 4000000 in
theorem c_X4_clean (l : Launch) (D : va_G) (cy : Nat → ClassId) (ad : Nat → Nat) (xr : va_W) (o : Int32) (σ : me_M) (hI : m_I σ) (sz : Nat) : me_Ci l yX4_clean wsX4_clean ({ frames := 3, cells := 0, slots := 0, locals := 67 }) D (me_T cy) (mm_W cy ad xr) [.ref (ad 0), .int o] sz σ (m_cl o σ) := by
  refine Met.ofW (cc := cX4_clean) (maxL := 4) (ret := (some .boolean)) (by decide) rfl ?_
  intro p e st m args below meth c s₁ B hml hv
  obtain ⟨rfl, hsz, hP, hK, hD0⟩ := hv
  have hx := B.exec
  have hb := B.bytes
  have hr := B.returns
  have hts := atoms_spec (ws := wsX4_clean) B.pre
  have hown : st.vm.findClass RX4 = some m.cls := findClass_of_methodNamed B.named
  have hlocks := B.notSynchronized
  have in4 : ∀ w ∈ u_ws RX4 TX4 29, w ∈ wsX4_clean := by decide +kernel
  have k41 := hts (.fieldLink RX4 41 "TwinWritesModel" "framePage" "[I") (by decide +kernel)
  have k44 := hts (.fieldLink RX4 44 "TwinWritesModel" "frameStamp" "[I") (by decide +kernel)
  have k47 := hts (.fieldLink RX4 47 "TwinWritesModel" "isDirty" "[Z") (by decide +kernel)
  have k106 := hts (.fieldLink RX4 106 "TwinWritesModel" "cleaned" "I") (by decide +kernel)
  subst hsz
  have hD := hD0.self (sz := st.heap.size)
  have hA : ∀ q : Nat, st.heap.size ≤ q → va_A ((mm_W cy ad xr) σ) st.heap.size q := fun q h => Or.inr h
  have hS : va_S (va_A ((mm_W cy ad xr) σ) st.heap.size) st.heap st.heap [] := va_S.rf
  generalize va_A ((mm_W cy ad xr) σ) st.heap.size = A at hD hA hS ⊢
  have hl := lv_entry ([.ref (ad 0), .int o]) (n := 4) (Nat.le_of_ble_eq_true rfl)
  rw [lg_entry_eq]
  generalize (lg_sl ([.ref (ad 0), .int o]) ++ List.replicate (4 - (lg_sl ([.ref (ad 0), .int o])).length) Slot.unset).toArray = ls at hl ⊢
  have hl : lv_has ls 4 [(0, .ref (ad 0)), (1, .int o)] := hl
  refine lv_aload_n hx hb dX4_clean_0 rfl (lv_at hl 0 rfl) ?_
  refine me_calli (f := m_lw σ) (w := (mm_W cy ad xr)) (σ := σ) (As := []) (rest := []) ⟨hx, hb, hml, hown, hts⟩ (fun sz => c_X4_logWaiting l D cy ad xr  σ (hI) sz) (cwV 0 hts gX4_clean_X4_logWaiting rfl rfl rfl (by decide +kernel) ⟨Nat.le_of_ble_eq_true rfl, Nat.le_of_ble_eq_true rfl⟩) (va_recv hK hP (ci := 4) (q0 := 0) rfl (me_get (by omega) (mm_0 cy ad _))) hK hP hD hS hA rfl hl.1 rfl (Nat.le_of_ble_eq_true rfl) dX4_clean_1 ⟨Nat.zero_le _, Nat.zero_le _⟩ (fun r1 s1 H locs e1 hP hD hS => ?_)
  have hJ := pu_mlw_I e1 hI
  refine lv_if_ne (tgt := 9) hx hb dX4_clean_4 (by decide) (fun c4 => ?_) (fun c4 => ?_)
  ·
    refine lv_iconst (v := nI 0) hx hb dX4_clean_9 (by decide) ?_
    refine lv_istore_n (lv' := [(2, .int (nI 0)), (0, .ref (ad 0)), (1, .int o)]) hx hb dX4_clean_10 rfl hl (by decide) rfl (fun ls hl => ?_)
    refine lv_iconst (v := nI 0) hx hb dX4_clean_11 (by decide) ?_
    refine lv_istore_n (lv' := [(3, .int (nI 0)), (2, .int (nI 0)), (0, .ref (ad 0)), (1, .int o)]) hx hb dX4_clean_12 rfl hl (by decide) rfl (fun ls hl => ?_)
    have J13 : ∀ (n : Nat) (z : Nat) (i : Nat) (s : me_M) (H : Heap) (locs : List Loc) (hP : va_P D vwCl ((mm_W cy ad xr) s) H) (hD : va_D A ((mm_W cy ad xr) s)) (hS : va_S A st.heap H locs) (ls : Array Slot) (hl : lv_has ls 4 [(3, .int (nI i)), (2, .int (nI z)), (0, .ref (ad 0)), (1, .int o)]), ∀ (hz : z ≤ i), ∀ (hi : i ≤ 4), ∀ (hn : 5 ≤ i + n), ∀ (hI : m_I s), m_cl o σ = m_cl_13 n o z i s → W p l e (headSpec wsX4_clean ({ frames := 3, cells := 0, slots := 0, locals := 67 })).room st m ([.ref (ad 0), .int o] : List Value).toArray below meth c H locs 0 0 (MQ below (va_Qi (fun r σ' => (r, σ') = m_cl o σ) (me_B D (me_T cy) A (mm_W cy ad xr)) A) ([.ref (ad 0), .int o] : List Value).toArray st 0 0 A) (F0 m 13 ls []) := by
      intro n
      induction n with
      | zero => intro z i s H locs hP hD hS ls hl hz hi hn hI hf13; exfalso; omega
      | succ n ih =>
        intro z i s H locs hP hD hS ls hl hz hi hn hI hf13
        refine lv_iload_n hx hb dX4_clean_13 rfl (lv_at hl 0 rfl) ?_
        refine lv_iconst (v := nI 4) hx hb dX4_clean_14 (by decide) ?_
        refine lv_icmp_ge (tgt := 57) hx hb dX4_clean_15 (by decide) (fun c15 => ?_) (fun c15 => ?_)
        ·
          try have h15 := (nI_leI (by omega) (by omega)).mp c15
          refine lv_iconst (v := nI 0) hx hb dX4_clean_57 (by decide) ?_
          refine lv_istore_n (lv' := [(3, .int (nI 0)), (2, .int (nI z)), (0, .ref (ad 0)), (1, .int o)]) hx hb dX4_clean_58 rfl hl (by decide) rfl (fun ls hl => ?_)
          have J59 : ∀ (n : Nat) (i : Nat) (s : me_M) (H : Heap) (locs : List Loc) (hP : va_P D vwCl ((mm_W cy ad xr) s) H) (hD : va_D A ((mm_W cy ad xr) s)) (hS : va_S A st.heap H locs) (ls : Array Slot) (hl : lv_has ls 4 [(3, .int (nI i)), (0, .ref (ad 0)), (1, .int o)]), ∀ (hi : i ≤ 4), ∀ (hn : 5 ≤ i + n), ∀ (hI : m_I s), m_cl o σ = m_cl_59 n o i s → W p l e (headSpec wsX4_clean ({ frames := 3, cells := 0, slots := 0, locals := 67 })).room st m ([.ref (ad 0), .int o] : List Value).toArray below meth c H locs 0 0 (MQ below (va_Qi (fun r σ' => (r, σ') = m_cl o σ) (me_B D (me_T cy) A (mm_W cy ad xr)) A) ([.ref (ad 0), .int o] : List Value).toArray st 0 0 A) (F0 m 59 ls []) := by
            intro n
            induction n with
            | zero => intro i s H locs hP hD hS ls hl hi hn hI hf59; exfalso; omega
            | succ n ih =>
              intro i s H locs hP hD hS ls hl hi hn hI hf59
              refine lv_iload_n hx hb dX4_clean_59 rfl (lv_at hl 0 rfl) ?_
              refine lv_iconst (v := nI 4) hx hb dX4_clean_60 (by decide) ?_
              refine lv_icmp_ge (tgt := 112) hx hb dX4_clean_61 (by decide) (fun c61 => ?_) (fun c61 => ?_)
              ·
                try have h61 := (nI_leI (by omega) (by omega)).mp c61
                refine lv_iconst (v := nI 0) hx hb dX4_clean_112 (by decide) ?_
                refine lv_istore_n (lv' := [(3, .int (nI 0)), (0, .ref (ad 0)), (1, .int o)]) hx hb dX4_clean_113 rfl hl (by decide) rfl (fun ls hl => ?_)
                have J114 : ∀ (n : Nat) (i : Nat) (s : me_M) (H : Heap) (locs : List Loc) (hP : va_P D vwCl ((mm_W cy ad xr) s) H) (hD : va_D A ((mm_W cy ad xr) s)) (hS : va_S A st.heap H locs) (ls : Array Slot) (hl : lv_has ls 4 [(3, .int (nI i)), (0, .ref (ad 0)), (1, .int o)]), ∀ (hi : i ≤ 4), ∀ (hn : 5 ≤ i + n), m_cl o σ = m_cl_114 n o i s → W p l e (headSpec wsX4_clean ({ frames := 3, cells := 0, slots := 0, locals := 67 })).room st m ([.ref (ad 0), .int o] : List Value).toArray below meth c H locs 0 0 (MQ below (va_Qi (fun r σ' => (r, σ') = m_cl o σ) (me_B D (me_T cy) A (mm_W cy ad xr)) A) ([.ref (ad 0), .int o] : List Value).toArray st 0 0 A) (F0 m 114 ls []) := by
                  intro n
                  induction n with
                  | zero => intro i s H locs hP hD hS ls hl hi hn hf114; exfalso; omega
                  | succ n ih =>
                    intro i s H locs hP hD hS ls hl hi hn hf114
                    refine lv_iload_n hx hb dX4_clean_114 rfl (lv_at hl 0 rfl) ?_
                    refine lv_iconst (v := nI 4) hx hb dX4_clean_115 (by decide) ?_
                    refine lv_icmp_ge (tgt := 161) hx hb dX4_clean_116 (by decide) (fun c116 => ?_) (fun c116 => ?_)
                    ·
                      try have h116 := (nI_leI (by omega) (by omega)).mp c116
                      refine lv_iconst (v := nI 1) hx hb dX4_clean_161 (by decide) ?_
                      exact me_reti hx hb hr rfl hlocks hK hP hD hS (by rw [hf114]; simp only [m_cl_114, if_pos c116]) dX4_clean_162
                    ·
                      try have h116 := (not_congr (nI_leI (by omega) (by omega))).mp c116
                      refine lv_aload_n hx hb dX4_clean_119 rfl (lv_at hl 1 rfl) ?_
                      refine va_get (D := D) (ci := 4) (v := .ref (ad 12)) (C := RX4) (T := TX4) (N := 29) hx hb hts in4 hown hK hP 0 (me_get (by omega) (mm_0 cy ad _)) rfl 13 (by decide) k47 (fun _ h9 => h9) rfl dX4_clean_120 ?_
                      refine lv_iload_n hx hb dX4_clean_123 rfl (lv_at hl 0 rfl) ?_
                      refine me_zald hx hb hK hP 12 1 (by omega) (fun f => mm_12 cy ad f) rfl i rfl (by omega) (by decide) dX4_clean_124 ?_
                      refine lv_if_eq (tgt := 155) hx hb dX4_clean_125 (by decide) (fun c125 => ?_) (fun c125 => ?_)
                      ·
                        refine lv_iinc (v := nI (i + 1)) (lv' := [(3, .int (nI (i + 1))), (0, .ref (ad 0)), (1, .int o)]) hx hb dX4_clean_155 hl (k := 0) rfl (me_inc _) (by decide) rfl (fun ls hl => ?_)
                        refine lv_goto (tgt := 114) hx hb dX4_clean_158 (by decide) ?_
                        exact ih (i + 1) s _ _ hP hD hS ls (lv_sub hl [0, 1, 2] rfl) (by omega) (by omega) (by rw [hf114]; simp only [m_cl_114, if_neg c116, if_pos c125])
                      ·
                        refine lv_iload_n hx hb dX4_clean_128 rfl (lv_at hl 2 rfl) ?_
                        refine lv_iconst (v := (-1)) hx hb dX4_clean_129 (by decide) ?_
                        refine lv_icmp_eq (tgt := 138) hx hb dX4_clean_130 (by decide) (fun c130 => ?_) (fun c130 => ?_)
                        ·
                          refine lv_aload_n hx hb dX4_clean_138 rfl (lv_at hl 1 rfl) ?_
                          refine va_get (D := D) (ci := 4) (v := .ref (ad 12)) (C := RX4) (T := TX4) (N := 29) hx hb hts in4 hown hK hP 0 (me_get (by omega) (mm_0 cy ad _)) rfl 13 (by decide) k47 (fun _ h9 => h9) rfl dX4_clean_139 ?_
                          refine lv_iload_n hx hb dX4_clean_142 rfl (lv_at hl 0 rfl) ?_
                          refine lv_iconst (v := nI 0) hx hb dX4_clean_143 (by decide) ?_
                          refine me_zast hx hb hK hP hD hS 12 1 (by omega) (fun f => mm_12 cy ad f) rfl i rfl (by omega) (by decide) (by decide) dX4_clean_144 (fun s144 H locs e144 hP hD hS => ?_)
                          refine lv_aload_n hx hb dX4_clean_145 rfl (lv_at hl 1 rfl) ?_
                          refine lv_dup hx hb dX4_clean_146 rfl ?_
                          refine va_get (D := D) (ci := 4) (v := .int (s144 0 27)) (C := RX4) (T := TX4) (N := 29) hx hb hts in4 hown hK hP 0 (me_get (by omega) (mm_0 cy ad _)) rfl 27 (by decide) k106 (fun _ h9 => h9) rfl dX4_clean_147 ?_
                          refine lv_iconst (v := nI 1) hx hb dX4_clean_150 (by decide) ?_
                          refine lv_iadd hx hb dX4_clean_151 ?_
                          refine me_put (ty := .int) (ci := 4) (C := RX4) (T := TX4) (M := 29) hx hb hts in4 tyX4 tyX4_ok nmX4 hown hK hP hD hS 0 (by omega) (mm_0 cy ad _) rfl 27 (by decide) k106 (fun _ h9 => h9) rfl (by decide +kernel) rfl rfl (Nat.le_of_ble_eq_true rfl) (mm_0 cy ad _) dX4_clean_152 (fun s152 H locs e152 hP hD hS => ?_)
                          refine lv_iinc (v := nI (i + 1)) (lv' := [(3, .int (nI (i + 1))), (0, .ref (ad 0)), (1, .int o)]) hx hb dX4_clean_155 hl (k := 0) rfl (me_inc _) (by decide) rfl (fun ls hl => ?_)
                          refine lv_goto (tgt := 114) hx hb dX4_clean_158 (by decide) ?_
                          exact ih (i + 1) s152 _ _ hP hD hS ls (lv_sub hl [0, 1, 2] rfl) (by omega) (by omega) (by rw [hf114]; simp only [m_cl_114, if_neg c116, if_neg c125, if_pos c130, e144, e152])
                        ·
                          refine lv_iload_n hx hb dX4_clean_133 rfl (lv_at hl 2 rfl) ?_
                          refine lv_iload_n hx hb dX4_clean_134 rfl (lv_at hl 0 rfl) ?_
                          refine lv_icmp_ne (tgt := 155) hx hb dX4_clean_135 (by decide) (fun c135 => ?_) (fun c135 => ?_)
                          ·
                            refine lv_iinc (v := nI (i + 1)) (lv' := [(3, .int (nI (i + 1))), (0, .ref (ad 0)), (1, .int o)]) hx hb dX4_clean_155 hl (k := 0) rfl (me_inc _) (by decide) rfl (fun ls hl => ?_)
                            refine lv_goto (tgt := 114) hx hb dX4_clean_158 (by decide) ?_
                            exact ih (i + 1) s _ _ hP hD hS ls (lv_sub hl [0, 1, 2] rfl) (by omega) (by omega) (by rw [hf114]; simp only [m_cl_114, if_neg c116, if_neg c125, if_neg c130, if_neg c135])
                          ·
                            refine lv_aload_n hx hb dX4_clean_138 rfl (lv_at hl 1 rfl) ?_
                            refine va_get (D := D) (ci := 4) (v := .ref (ad 12)) (C := RX4) (T := TX4) (N := 29) hx hb hts in4 hown hK hP 0 (me_get (by omega) (mm_0 cy ad _)) rfl 13 (by decide) k47 (fun _ h9 => h9) rfl dX4_clean_139 ?_
                            refine lv_iload_n hx hb dX4_clean_142 rfl (lv_at hl 0 rfl) ?_
                            refine lv_iconst (v := nI 0) hx hb dX4_clean_143 (by decide) ?_
                            refine me_zast hx hb hK hP hD hS 12 1 (by omega) (fun f => mm_12 cy ad f) rfl i rfl (by omega) (by decide) (by decide) dX4_clean_144 (fun s144 H locs e144 hP hD hS => ?_)
                            refine lv_aload_n hx hb dX4_clean_145 rfl (lv_at hl 1 rfl) ?_
                            refine lv_dup hx hb dX4_clean_146 rfl ?_
                            refine va_get (D := D) (ci := 4) (v := .int (s144 0 27)) (C := RX4) (T := TX4) (N := 29) hx hb hts in4 hown hK hP 0 (me_get (by omega) (mm_0 cy ad _)) rfl 27 (by decide) k106 (fun _ h9 => h9) rfl dX4_clean_147 ?_
                            refine lv_iconst (v := nI 1) hx hb dX4_clean_150 (by decide) ?_
                            refine lv_iadd hx hb dX4_clean_151 ?_
                            refine me_put (ty := .int) (ci := 4) (C := RX4) (T := TX4) (M := 29) hx hb hts in4 tyX4 tyX4_ok nmX4 hown hK hP hD hS 0 (by omega) (mm_0 cy ad _) rfl 27 (by decide) k106 (fun _ h9 => h9) rfl (by decide +kernel) rfl rfl (Nat.le_of_ble_eq_true rfl) (mm_0 cy ad _) dX4_clean_152 (fun s152 H locs e152 hP hD hS => ?_)
                            refine lv_iinc (v := nI (i + 1)) (lv' := [(3, .int (nI (i + 1))), (0, .ref (ad 0)), (1, .int o)]) hx hb dX4_clean_155 hl (k := 0) rfl (me_inc _) (by decide) rfl (fun ls hl => ?_)
                            refine lv_goto (tgt := 114) hx hb dX4_clean_158 (by decide) ?_
                            exact ih (i + 1) s152 _ _ hP hD hS ls (lv_sub hl [0, 1, 2] rfl) (by omega) (by omega) (by rw [hf114]; simp only [m_cl_114, if_neg c116, if_neg c125, if_neg c130, if_pos c135, e144, e152])
                exact J114 5 0 s _ _ hP hD hS ls (lv_sub hl [0, 1, 2] rfl) (by omega) (by omega) (by rw [hf59]; simp only [m_cl_59, if_pos c61])
              ·
                try have h61 := (not_congr (nI_leI (by omega) (by omega))).mp c61
                refine lv_aload_n hx hb dX4_clean_64 rfl (lv_at hl 1 rfl) ?_
                refine va_get (D := D) (ci := 4) (v := .ref (ad 12)) (C := RX4) (T := TX4) (N := 29) hx hb hts in4 hown hK hP 0 (me_get (by omega) (mm_0 cy ad _)) rfl 13 (by decide) k47 (fun _ h9 => h9) rfl dX4_clean_65 ?_
                refine lv_iload_n hx hb dX4_clean_68 rfl (lv_at hl 0 rfl) ?_
                refine me_zald hx hb hK hP 12 1 (by omega) (fun f => mm_12 cy ad f) rfl i rfl (by omega) (by decide) dX4_clean_69 ?_
                refine lv_if_eq (tgt := 106) hx hb dX4_clean_70 (by decide) (fun c70 => ?_) (fun c70 => ?_)
                ·
                  refine lv_iinc (v := nI (i + 1)) (lv' := [(3, .int (nI (i + 1))), (0, .ref (ad 0)), (1, .int o)]) hx hb dX4_clean_106 hl (k := 0) rfl (me_inc _) (by decide) rfl (fun ls hl => ?_)
                  refine lv_goto (tgt := 59) hx hb dX4_clean_109 (by decide) ?_
                  exact ih (i + 1) s _ _ hP hD hS ls (lv_sub hl [0, 1, 2] rfl) (by omega) (by omega) (by first | exact hI | exact pu_wh_I e98 hI) (by rw [hf59]; simp only [m_cl_59, if_neg c61, if_pos c70])
                ·
                  refine lv_iload_n hx hb dX4_clean_73 rfl (lv_at hl 2 rfl) ?_
                  refine lv_iconst (v := (-1)) hx hb dX4_clean_74 (by decide) ?_
                  refine lv_icmp_eq (tgt := 83) hx hb dX4_clean_75 (by decide) (fun c75 => ?_) (fun c75 => ?_)
                  ·
                    refine lv_aload_n hx hb dX4_clean_83 rfl (lv_at hl 1 rfl) ?_
                    refine lv_aload_n hx hb dX4_clean_84 rfl (lv_at hl 1 rfl) ?_
                    refine va_get (D := D) (ci := 4) (v := .ref (ad 10)) (C := RX4) (T := TX4) (N := 29) hx hb hts in4 hown hK hP 0 (me_get (by omega) (mm_0 cy ad _)) rfl 11 (by decide) k41 (fun _ h9 => h9) rfl dX4_clean_85 ?_
                    refine lv_iload_n hx hb dX4_clean_88 rfl (lv_at hl 0 rfl) ?_
                    refine me_iald hx hb hK hP 10 0 (by omega) (fun f => mm_10 cy ad f) rfl i rfl (by omega) (by decide) dX4_clean_89 ?_
                    refine lv_aload_n hx hb dX4_clean_90 rfl (lv_at hl 1 rfl) ?_
                    refine va_get (D := D) (ci := 4) (v := .ref (ad 11)) (C := RX4) (T := TX4) (N := 29) hx hb hts in4 hown hK hP 0 (me_get (by omega) (mm_0 cy ad _)) rfl 12 (by decide) k44 (fun _ h9 => h9) rfl dX4_clean_91 ?_
                    refine lv_iload_n hx hb dX4_clean_94 rfl (lv_at hl 0 rfl) ?_
                    refine me_iald hx hb hK hP 11 0 (by omega) (fun f => mm_11 cy ad f) rfl i rfl (by omega) (by decide) dX4_clean_95 ?_
                    refine lv_iload_n hx hb dX4_clean_96 rfl (lv_at hl 0 rfl) ?_
                    refine lv_iconst (v := nI 1) hx hb dX4_clean_97 (by decide) ?_
                    have v98_a : vp_in (s 10 i) 12 := hI.2.2.1 i (by omega) c70
                    have b98_a := me_inb v98_a
                    have q98_a : (s 10 i) = nI ((s 10 i).toNatClampNeg) := me_ine v98_a
                    refine me_calli (f := m_wh ((s 10 i).toNatClampNeg) (s 11 i) i (nI 1) s) (w := (mm_W cy ad xr)) (σ := s) (As := [.int (s 10 i), .int (s 11 i), .int (nI i), .int (nI 1)]) (rest := []) ⟨hx, hb, hml, hown, hts⟩ (fun sz => me_av (av := [.ref (ad 0), .int (nI ((s 10 i).toNatClampNeg)), .int (s 11 i), .int (nI i), .int (nI 1)]) (by simp only [← q98_a]) (c_X4_writeHome l D cy ad xr ((s 10 i).toNatClampNeg) (s 11 i) i (nI 1) s (by omega) (by omega) sz)) (cwV 4 hts gX4_clean_X4_writeHome rfl rfl rfl (by decide +kernel) ⟨Nat.le_of_ble_eq_true rfl, Nat.le_of_ble_eq_true rfl⟩) (va_recv hK hP (ci := 4) (q0 := 0) rfl (me_get (by omega) (mm_0 cy ad _))) hK hP hD hS hA rfl hl.1 rfl (Nat.le_of_ble_eq_true rfl) dX4_clean_98 ⟨Nat.zero_le _, Nat.zero_le _⟩ (fun r98 s98 H locs e98 hP hD hS => ?_)
                    refine lv_if_ne (tgt := 106) hx hb dX4_clean_101 (by decide) (fun c101 => ?_) (fun c101 => ?_)
                    ·
                      refine lv_iinc (v := nI (i + 1)) (lv' := [(3, .int (nI (i + 1))), (0, .ref (ad 0)), (1, .int o)]) hx hb dX4_clean_106 hl (k := 0) rfl (me_inc _) (by decide) rfl (fun ls hl => ?_)
                      refine lv_goto (tgt := 59) hx hb dX4_clean_109 (by decide) ?_
                      exact ih (i + 1) s98 _ _ hP hD hS ls (lv_sub hl [0, 1, 2] rfl) (by omega) (by omega) (by first | exact hI | exact pu_wh_I e98 hI) (by rw [hf59]; simp only [m_cl_59, if_neg c61, if_neg c70, if_pos c75, e98, if_neg c101])
                    ·
                      refine lv_iconst (v := nI 0) hx hb dX4_clean_104 (by decide) ?_
                      exact me_reti hx hb hr rfl hlocks hK hP hD hS (by rw [hf59]; simp only [m_cl_59, if_neg c61, if_neg c70, if_pos c75, e98, if_pos c101]) dX4_clean_105
                  ·
                    refine lv_iload_n hx hb dX4_clean_78 rfl (lv_at hl 2 rfl) ?_
                    refine lv_iload_n hx hb dX4_clean_79 rfl (lv_at hl 0 rfl) ?_
                    refine lv_icmp_ne (tgt := 106) hx hb dX4_clean_80 (by decide) (fun c80 => ?_) (fun c80 => ?_)
                    ·
                      refine lv_iinc (v := nI (i + 1)) (lv' := [(3, .int (nI (i + 1))), (0, .ref (ad 0)), (1, .int o)]) hx hb dX4_clean_106 hl (k := 0) rfl (me_inc _) (by decide) rfl (fun ls hl => ?_)
                      refine lv_goto (tgt := 59) hx hb dX4_clean_109 (by decide) ?_
                      exact ih (i + 1) s _ _ hP hD hS ls (lv_sub hl [0, 1, 2] rfl) (by omega) (by omega) (by first | exact hI | exact pu_wh_I e98 hI) (by rw [hf59]; simp only [m_cl_59, if_neg c61, if_neg c70, if_neg c75, if_neg c80])
                    ·
                      refine lv_aload_n hx hb dX4_clean_83 rfl (lv_at hl 1 rfl) ?_
                      refine lv_aload_n hx hb dX4_clean_84 rfl (lv_at hl 1 rfl) ?_
                      refine va_get (D := D) (ci := 4) (v := .ref (ad 10)) (C := RX4) (T := TX4) (N := 29) hx hb hts in4 hown hK hP 0 (me_get (by omega) (mm_0 cy ad _)) rfl 11 (by decide) k41 (fun _ h9 => h9) rfl dX4_clean_85 ?_
                      refine lv_iload_n hx hb dX4_clean_88 rfl (lv_at hl 0 rfl) ?_
                      refine me_iald hx hb hK hP 10 0 (by omega) (fun f => mm_10 cy ad f) rfl i rfl (by omega) (by decide) dX4_clean_89 ?_
                      refine lv_aload_n hx hb dX4_clean_90 rfl (lv_at hl 1 rfl) ?_
                      refine va_get (D := D) (ci := 4) (v := .ref (ad 11)) (C := RX4) (T := TX4) (N := 29) hx hb hts in4 hown hK hP 0 (me_get (by omega) (mm_0 cy ad _)) rfl 12 (by decide) k44 (fun _ h9 => h9) rfl dX4_clean_91 ?_
                      refine lv_iload_n hx hb dX4_clean_94 rfl (lv_at hl 0 rfl) ?_
                      refine me_iald hx hb hK hP 11 0 (by omega) (fun f => mm_11 cy ad f) rfl i rfl (by omega) (by decide) dX4_clean_95 ?_
                      refine lv_iload_n hx hb dX4_clean_96 rfl (lv_at hl 0 rfl) ?_
                      refine lv_iconst (v := nI 1) hx hb dX4_clean_97 (by decide) ?_
                      have v98_a : vp_in (s 10 i) 12 := hI.2.2.1 i (by omega) c70
                      have b98_a := me_inb v98_a
                      have q98_a : (s 10 i) = nI ((s 10 i).toNatClampNeg) := me_ine v98_a
                      refine me_calli (f := m_wh ((s 10 i).toNatClampNeg) (s 11 i) i (nI 1) s) (w := (mm_W cy ad xr)) (σ := s) (As := [.int (s 10 i), .int (s 11 i), .int (nI i), .int (nI 1)]) (rest := []) ⟨hx, hb, hml, hown, hts⟩ (fun sz => me_av (av := [.ref (ad 0), .int (nI ((s 10 i).toNatClampNeg)), .int (s 11 i), .int (nI i), .int (nI 1)]) (by simp only [← q98_a]) (c_X4_writeHome l D cy ad xr ((s 10 i).toNatClampNeg) (s 11 i) i (nI 1) s (by omega) (by omega) sz)) (cwV 4 hts gX4_clean_X4_writeHome rfl rfl rfl (by decide +kernel) ⟨Nat.le_of_ble_eq_true rfl, Nat.le_of_ble_eq_true rfl⟩) (va_recv hK hP (ci := 4) (q0 := 0) rfl (me_get (by omega) (mm_0 cy ad _))) hK hP hD hS hA rfl hl.1 rfl (Nat.le_of_ble_eq_true rfl) dX4_clean_98 ⟨Nat.zero_le _, Nat.zero_le _⟩ (fun r98 s98 H locs e98 hP hD hS => ?_)
                      refine lv_if_ne (tgt := 106) hx hb dX4_clean_101 (by decide) (fun c101 => ?_) (fun c101 => ?_)
                      ·
                        refine lv_iinc (v := nI (i + 1)) (lv' := [(3, .int (nI (i + 1))), (0, .ref (ad 0)), (1, .int o)]) hx hb dX4_clean_106 hl (k := 0) rfl (me_inc _) (by decide) rfl (fun ls hl => ?_)
                        refine lv_goto (tgt := 59) hx hb dX4_clean_109 (by decide) ?_
                        exact ih (i + 1) s98 _ _ hP hD hS ls (lv_sub hl [0, 1, 2] rfl) (by omega) (by omega) (by first | exact hI | exact pu_wh_I e98 hI) (by rw [hf59]; simp only [m_cl_59, if_neg c61, if_neg c70, if_neg c75, if_pos c80, e98, if_neg c101])
                      ·
                        refine lv_iconst (v := nI 0) hx hb dX4_clean_104 (by decide) ?_
                        exact me_reti hx hb hr rfl hlocks hK hP hD hS (by rw [hf59]; simp only [m_cl_59, if_neg c61, if_neg c70, if_neg c75, if_pos c80, e98, if_pos c101]) dX4_clean_105
          exact J59 5 0 s _ _ hP hD hS ls (lv_sub hl [0, 2, 3] rfl) (by omega) (by omega) (hI) (by rw [hf13]; simp only [m_cl_13, if_pos c15])
        ·
          try have h15 := (not_congr (nI_leI (by omega) (by omega))).mp c15
          refine lv_aload_n hx hb dX4_clean_18 rfl (lv_at hl 2 rfl) ?_
          refine va_get (D := D) (ci := 4) (v := .ref (ad 12)) (C := RX4) (T := TX4) (N := 29) hx hb hts in4 hown hK hP 0 (me_get (by omega) (mm_0 cy ad _)) rfl 13 (by decide) k47 (fun _ h9 => h9) rfl dX4_clean_19 ?_
          refine lv_iload_n hx hb dX4_clean_22 rfl (lv_at hl 0 rfl) ?_
          refine me_zald hx hb hK hP 12 1 (by omega) (fun f => mm_12 cy ad f) rfl i rfl (by omega) (by decide) dX4_clean_23 ?_
          refine lv_if_eq (tgt := 51) hx hb dX4_clean_24 (by decide) (fun c24 => ?_) (fun c24 => ?_)
          ·
            refine lv_iinc (v := nI (i + 1)) (lv' := [(3, .int (nI (i + 1))), (2, .int (nI z)), (0, .ref (ad 0)), (1, .int o)]) hx hb dX4_clean_51 hl (k := 0) rfl (me_inc _) (by decide) rfl (fun ls hl => ?_)
            refine lv_goto (tgt := 13) hx hb dX4_clean_54 (by decide) ?_
            exact ih z (i + 1) s _ _ hP hD hS ls (lv_sub hl [0, 1, 2, 3] rfl) (by omega) (by omega) (by omega) (by first | exact hI | exact pu_wb_I e40 hI) (by rw [hf13]; simp only [m_cl_13, if_neg c15, if_pos c24])
          ·
            refine lv_iload_n hx hb dX4_clean_27 rfl (lv_at hl 3 rfl) ?_
            refine lv_iconst (v := (-1)) hx hb dX4_clean_28 (by decide) ?_
            refine lv_icmp_eq (tgt := 37) hx hb dX4_clean_29 (by decide) (fun c29 => ?_) (fun c29 => ?_)
            ·
              refine lv_aload_n hx hb dX4_clean_37 rfl (lv_at hl 2 rfl) ?_
              refine lv_iload_n hx hb dX4_clean_38 rfl (lv_at hl 1 rfl) ?_
              refine lv_iload_n hx hb dX4_clean_39 rfl (lv_at hl 0 rfl) ?_
              refine me_calli (f := m_wb z i s) (w := (mm_W cy ad xr)) (σ := s) (As := [.int (nI z), .int (nI i)]) (rest := []) ⟨hx, hb, hml, hown, hts⟩ (fun sz => c_X4_writeBeside l D cy ad xr z i s (by omega) (by omega) sz) (cwV 2 hts gX4_clean_X4_writeBeside rfl rfl rfl (by decide +kernel) ⟨Nat.le_of_ble_eq_true rfl, Nat.le_of_ble_eq_true rfl⟩) (va_recv hK hP (ci := 4) (q0 := 0) rfl (me_get (by omega) (mm_0 cy ad _))) hK hP hD hS hA rfl hl.1 rfl (Nat.le_of_ble_eq_true rfl) dX4_clean_40 ⟨Nat.zero_le _, Nat.zero_le _⟩ (fun r40 s40 H locs e40 hP hD hS => ?_)
              refine lv_if_ne (tgt := 48) hx hb dX4_clean_43 (by decide) (fun c43 => ?_) (fun c43 => ?_)
              ·
                refine lv_iinc (v := nI (z + 1)) (lv' := [(2, .int (nI (z + 1))), (3, .int (nI i)), (0, .ref (ad 0)), (1, .int o)]) hx hb dX4_clean_48 hl (k := 1) rfl (me_inc _) (by decide) rfl (fun ls hl => ?_)
                refine lv_iinc (v := nI (i + 1)) (lv' := [(3, .int (nI (i + 1))), (2, .int (nI (z + 1))), (0, .ref (ad 0)), (1, .int o)]) hx hb dX4_clean_51 hl (k := 1) rfl (me_inc _) (by decide) rfl (fun ls hl => ?_)
                refine lv_goto (tgt := 13) hx hb dX4_clean_54 (by decide) ?_
                exact ih (z + 1) (i + 1) s40 _ _ hP hD hS ls (lv_sub hl [0, 1, 2, 3] rfl) (by omega) (by omega) (by omega) (by first | exact hI | exact pu_wb_I e40 hI) (by rw [hf13]; simp only [m_cl_13, if_neg c15, if_neg c24, if_pos c29, e40, if_neg c43])
              ·
                refine lv_iconst (v := nI 0) hx hb dX4_clean_46 (by decide) ?_
                exact me_reti hx hb hr rfl hlocks hK hP hD hS (by rw [hf13]; simp only [m_cl_13, if_neg c15, if_neg c24, if_pos c29, e40, if_pos c43]) dX4_clean_47
            ·
              refine lv_iload_n hx hb dX4_clean_32 rfl (lv_at hl 3 rfl) ?_
              refine lv_iload_n hx hb dX4_clean_33 rfl (lv_at hl 0 rfl) ?_
              refine lv_icmp_ne (tgt := 51) hx hb dX4_clean_34 (by decide) (fun c34 => ?_) (fun c34 => ?_)
              ·
                refine lv_iinc (v := nI (i + 1)) (lv' := [(3, .int (nI (i + 1))), (2, .int (nI z)), (0, .ref (ad 0)), (1, .int o)]) hx hb dX4_clean_51 hl (k := 0) rfl (me_inc _) (by decide) rfl (fun ls hl => ?_)
                refine lv_goto (tgt := 13) hx hb dX4_clean_54 (by decide) ?_
                exact ih z (i + 1) s _ _ hP hD hS ls (lv_sub hl [0, 1, 2, 3] rfl) (by omega) (by omega) (by omega) (by first | exact hI | exact pu_wb_I e40 hI) (by rw [hf13]; simp only [m_cl_13, if_neg c15, if_neg c24, if_neg c29, if_neg c34])
              ·
                refine lv_aload_n hx hb dX4_clean_37 rfl (lv_at hl 2 rfl) ?_
                refine lv_iload_n hx hb dX4_clean_38 rfl (lv_at hl 1 rfl) ?_
                refine lv_iload_n hx hb dX4_clean_39 rfl (lv_at hl 0 rfl) ?_
                refine me_calli (f := m_wb z i s) (w := (mm_W cy ad xr)) (σ := s) (As := [.int (nI z), .int (nI i)]) (rest := []) ⟨hx, hb, hml, hown, hts⟩ (fun sz => c_X4_writeBeside l D cy ad xr z i s (by omega) (by omega) sz) (cwV 2 hts gX4_clean_X4_writeBeside rfl rfl rfl (by decide +kernel) ⟨Nat.le_of_ble_eq_true rfl, Nat.le_of_ble_eq_true rfl⟩) (va_recv hK hP (ci := 4) (q0 := 0) rfl (me_get (by omega) (mm_0 cy ad _))) hK hP hD hS hA rfl hl.1 rfl (Nat.le_of_ble_eq_true rfl) dX4_clean_40 ⟨Nat.zero_le _, Nat.zero_le _⟩ (fun r40 s40 H locs e40 hP hD hS => ?_)
                refine lv_if_ne (tgt := 48) hx hb dX4_clean_43 (by decide) (fun c43 => ?_) (fun c43 => ?_)
                ·
                  refine lv_iinc (v := nI (z + 1)) (lv' := [(2, .int (nI (z + 1))), (3, .int (nI i)), (0, .ref (ad 0)), (1, .int o)]) hx hb dX4_clean_48 hl (k := 1) rfl (me_inc _) (by decide) rfl (fun ls hl => ?_)
                  refine lv_iinc (v := nI (i + 1)) (lv' := [(3, .int (nI (i + 1))), (2, .int (nI (z + 1))), (0, .ref (ad 0)), (1, .int o)]) hx hb dX4_clean_51 hl (k := 1) rfl (me_inc _) (by decide) rfl (fun ls hl => ?_)
                  refine lv_goto (tgt := 13) hx hb dX4_clean_54 (by decide) ?_
                  exact ih (z + 1) (i + 1) s40 _ _ hP hD hS ls (lv_sub hl [0, 1, 2, 3] rfl) (by omega) (by omega) (by omega) (by first | exact hI | exact pu_wb_I e40 hI) (by rw [hf13]; simp only [m_cl_13, if_neg c15, if_neg c24, if_neg c29, if_pos c34, e40, if_neg c43])
                ·
                  refine lv_iconst (v := nI 0) hx hb dX4_clean_46 (by decide) ?_
                  exact me_reti hx hb hr rfl hlocks hK hP hD hS (by rw [hf13]; simp only [m_cl_13, if_neg c15, if_neg c24, if_neg c29, if_pos c34, e40, if_pos c43]) dX4_clean_47
    exact J13 5 0 0 s1 _ _ hP hD hS ls (lv_sub hl [0, 1, 2, 3] rfl) (by omega) (by omega) (by omega) (hJ) (by simp only [m_cl, e1, if_neg c4])
  ·
    refine lv_iconst (v := nI 0) hx hb dX4_clean_7 (by decide) ?_
    exact me_reti hx hb hr rfl hlocks hK hP hD hS (by simp only [m_cl, e1, if_pos c4]) dX4_clean_8

def m_chk  (σ : me_M) : Int32 × me_M := let q7 := m_cl ((-1)) σ; let r7 := q7.1; let s7 := q7.2; if r7 = 0 then (((-3), s7)) else (let q14 := m_mw s7; let r14 := q14.1; let s14 := q14.2; if r14 = 0 then (((-3), s14)) else (let s28 := me_st s14 0 10 (s14 0 17); ((s28 0 27) - (σ 0 27), s28)))
set_option maxRecDepth 100000 in
set_option maxHeartbeats 4000000 in
theorem c_X4_check (l : Launch) (D : va_G) (cy : Nat → ClassId) (ad : Nat → Nat) (xr : va_W)  (σ : me_M) (hI : m_I σ) (sz : Nat) : me_Ci l yX4_check wsX4_check ({ frames := 4, cells := 0, slots := 0, locals := 90 }) D (me_T cy) (mm_W cy ad xr) [.ref (ad 0)] sz σ (m_chk  σ) := by
  refine Met.ofW (cc := cX4_check) (maxL := 2) (ret := (some .int)) (by decide) rfl ?_
  intro p e st m args below meth c s₁ B hml hv
  obtain ⟨rfl, hsz, hP, hK, hD0⟩ := hv
  have hx := B.exec
  have hb := B.bytes
  have hr := B.returns
  have hts := atoms_spec (ws := wsX4_check) B.pre
  have hown : st.vm.findClass RX4 = some m.cls := findClass_of_methodNamed B.named
  have hlocks := B.notSynchronized
  have in4 : ∀ w ∈ u_ws RX4 TX4 29, w ∈ wsX4_check := by decide +kernel
  have k37 := hts (.fieldLink RX4 37 "TwinWritesModel" "mark" "I") (by decide +kernel)
  have k57 := hts (.fieldLink RX4 57 "TwinWritesModel" "next" "I") (by decide +kernel)
  have k106 := hts (.fieldLink RX4 106 "TwinWritesModel" "cleaned" "I") (by decide +kernel)
  subst hsz
  have hD := hD0.self (sz := st.heap.size)
  have hA : ∀ q : Nat, st.heap.size ≤ q → va_A ((mm_W cy ad xr) σ) st.heap.size q := fun q h => Or.inr h
  have hS : va_S (va_A ((mm_W cy ad xr) σ) st.heap.size) st.heap st.heap [] := va_S.rf
  generalize va_A ((mm_W cy ad xr) σ) st.heap.size = A at hD hA hS ⊢
  have hl := lv_entry ([.ref (ad 0)]) (n := 2) (Nat.le_of_ble_eq_true rfl)
  rw [lg_entry_eq]
  generalize (lg_sl ([.ref (ad 0)]) ++ List.replicate (2 - (lg_sl ([.ref (ad 0)])).length) Slot.unset).toArray = ls at hl ⊢
  have hl : lv_has ls 2 [(0, .ref (ad 0))] := hl
  refine lv_aload_n hx hb dX4_check_0 rfl (lv_at hl 0 rfl) ?_
  refine va_get (D := D) (ci := 4) (v := .int (σ 0 27)) (C := RX4) (T := TX4) (N := 29) hx hb hts in4 hown hK hP 0 (me_get (by omega) (mm_0 cy ad _)) rfl 27 (by decide) k106 (fun _ h9 => h9) rfl dX4_check_1 ?_
  refine lv_istore_n (lv' := [(1, .int (σ 0 27)), (0, .ref (ad 0))]) hx hb dX4_check_4 rfl hl (by decide) rfl (fun ls hl => ?_)
  refine lv_aload_n hx hb dX4_check_5 rfl (lv_at hl 1 rfl) ?_
  refine lv_iconst (v := (-1)) hx hb dX4_check_6 (by decide) ?_
  refine me_calli (f := m_cl ((-1)) σ) (w := (mm_W cy ad xr)) (σ := σ) (As := [.int ((-1))]) (rest := []) ⟨hx, hb, hml, hown, hts⟩ (fun sz => c_X4_clean l D cy ad xr ((-1)) σ (hI) sz) (cwV 1 hts gX4_check_X4_clean rfl rfl rfl (by decide +kernel) ⟨Nat.le_of_ble_eq_true rfl, Nat.le_of_ble_eq_true rfl⟩) (va_recv hK hP (ci := 4) (q0 := 0) rfl (me_get (by omega) (mm_0 cy ad _))) hK hP hD hS hA rfl hl.1 rfl (Nat.le_of_ble_eq_true rfl) dX4_check_7 ⟨Nat.zero_le _, Nat.zero_le _⟩ (fun r7 s7 H locs e7 hP hD hS => ?_)
  refine lv_if_eq (tgt := 20) hx hb dX4_check_10 (by decide) (fun c10 => ?_) (fun c10 => ?_)
  ·
    refine lv_bipush (v := (-3)) hx hb dX4_check_20 (by decide) ?_
    exact me_reti hx hb hr rfl hlocks hK hP hD hS (by simp only [m_chk, e7, if_pos c10]) dX4_check_22
  ·
    refine lv_aload_n hx hb dX4_check_13 rfl (lv_at hl 1 rfl) ?_
    refine me_calli (f := m_mw s7) (w := (mm_W cy ad xr)) (σ := s7) (As := []) (rest := []) ⟨hx, hb, hml, hown, hts⟩ (fun sz => c_X4_mayWrite l D cy ad xr  s7  sz) (cwV 0 hts gX4_check_X4_mayWrite rfl rfl rfl (by decide +kernel) ⟨Nat.le_of_ble_eq_true rfl, Nat.le_of_ble_eq_true rfl⟩) (va_recv hK hP (ci := 4) (q0 := 0) rfl (me_get (by omega) (mm_0 cy ad _))) hK hP hD hS hA rfl hl.1 rfl (Nat.le_of_ble_eq_true rfl) dX4_check_14 ⟨Nat.zero_le _, Nat.zero_le _⟩ (fun r14 s14 H locs e14 hP hD hS => ?_)
    refine lv_if_ne (tgt := 23) hx hb dX4_check_17 (by decide) (fun c17 => ?_) (fun c17 => ?_)
    ·
      refine lv_aload_n hx hb dX4_check_23 rfl (lv_at hl 1 rfl) ?_
      refine lv_aload_n hx hb dX4_check_24 rfl (lv_at hl 1 rfl) ?_
      refine va_get (D := D) (ci := 4) (v := .int (s14 0 17)) (C := RX4) (T := TX4) (N := 29) hx hb hts in4 hown hK hP 0 (me_get (by omega) (mm_0 cy ad _)) rfl 17 (by decide) k57 (fun _ h9 => h9) rfl dX4_check_25 ?_
      refine me_put (ty := .int) (ci := 4) (C := RX4) (T := TX4) (M := 29) hx hb hts in4 tyX4 tyX4_ok nmX4 hown hK hP hD hS 0 (by omega) (mm_0 cy ad _) rfl 10 (by decide) k37 (fun _ h9 => h9) rfl (by decide +kernel) rfl rfl (Nat.le_of_ble_eq_true rfl) (mm_0 cy ad _) dX4_check_28 (fun s28 H locs e28 hP hD hS => ?_)
      refine lv_aload_n hx hb dX4_check_31 rfl (lv_at hl 1 rfl) ?_
      refine va_get (D := D) (ci := 4) (v := .int (s28 0 27)) (C := RX4) (T := TX4) (N := 29) hx hb hts in4 hown hK hP 0 (me_get (by omega) (mm_0 cy ad _)) rfl 27 (by decide) k106 (fun _ h9 => h9) rfl dX4_check_32 ?_
      refine lv_iload_n hx hb dX4_check_35 rfl (lv_at hl 0 rfl) ?_
      refine lv_isub hx hb dX4_check_36 ?_
      exact me_reti hx hb hr rfl hlocks hK hP hD hS (by simp only [m_chk, e7, if_neg c10, e14, if_neg c17, e28]) dX4_check_37
    ·
      refine lv_bipush (v := (-3)) hx hb dX4_check_20 (by decide) ?_
      exact me_reti hx hb hr rfl hlocks hK hP hD hS (by simp only [m_chk, e7, if_neg c10, e14, if_pos c17]) dX4_check_22
