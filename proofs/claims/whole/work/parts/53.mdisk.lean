def m_frame_30 (a : Int32) (b : Int32) (z : Int32) (s : me_M) : Int32 × me_M := let q31 := m_ref z (nI 1) s; let r31 := q31.1; let s31 := q31.2; if r31 = 0 then (if b = 0 then (if b = 0 then ((s31 10 a.toNatClampNeg, s31)) else ((nI 0, s31))) else (if (s31 10 a.toNatClampNeg) = (-1) then (if b = 0 then ((s31 10 a.toNatClampNeg, s31)) else ((nI 0, s31))) else (if b = nI 1 then ((s31 11 a.toNatClampNeg, s31)) else (if b = nI 2 then (if (s31 12 a.toNatClampNeg) = 0 then ((nI 0, s31)) else ((nI 1, s31))) else ((s31 14 ((16 * a.toNatClampNeg + b.toNatClampNeg) - 3), s31)))))) else ((nI 0, s31))
def m_frame (a : Int32) (b : Int32) (σ : me_M) : Int32 × me_M := let s2 := me_st σ 0 0 (nI 0); if (m_in a (nI 0) (nI 3)) = 0 then (m_frame_30 a b (nI 1) s2) else (if (m_in b (nI 0) (nI 18)) = 0 then (m_frame_30 a b (nI 1) s2) else (m_frame_30 a b (nI 0) s2))
set_option maxRecDepth 100000 in
set_option maxHeartbeats 4000000 in
theorem c_X4_frame (l : Launch) (D : va_G) (cy : Nat → ClassId) (ad : Nat → Nat) (xr : va_W) (a : Int32) (b : Int32) (σ : me_M) (hI : m_I σ) (sz : Nat) : me_Ci l yX4_frame wsX4_frame ({ frames := 1, cells := 0, slots := 0, locals := 22 }) D (me_T cy) (mm_W cy ad xr) [.ref (ad 0), .int a, .int b] sz σ (m_frame a b σ) := by
  refine Met.ofW (cc := cX4_frame) (maxL := 3) (ret := (some .int)) (by decide) rfl ?_
  intro p e st m args below meth c s₁ B hml hv
  obtain ⟨rfl, hsz, hP, hK, hD0⟩ := hv
  have hx := B.exec
  have hb := B.bytes
  have hr := B.returns
  have hts := atoms_spec (ws := wsX4_frame) B.pre
  have hown : st.vm.findClass RX4 = some m.cls := findClass_of_methodNamed B.named
  have hlocks := B.notSynchronized
  have in4 : ∀ w ∈ u_ws RX4 TX4 29, w ∈ wsX4_frame := by decide +kernel
  have k41 := hts (.fieldLink RX4 41 "TwinWritesModel" "framePage" "[I") (by decide +kernel)
  have k44 := hts (.fieldLink RX4 44 "TwinWritesModel" "frameStamp" "[I") (by decide +kernel)
  have k47 := hts (.fieldLink RX4 47 "TwinWritesModel" "isDirty" "[Z") (by decide +kernel)
  have k54 := hts (.fieldLink RX4 54 "TwinWritesModel" "frameWord" "[I") (by decide +kernel)
  have k75 := hts (.fieldLink RX4 75 "TwinWritesModel" "thrown" "I") (by decide +kernel)
  subst hsz
  have hD := hD0.self (sz := st.heap.size)
  have hA : ∀ q : Nat, st.heap.size ≤ q → va_A ((mm_W cy ad xr) σ) st.heap.size q := fun q h => Or.inr h
  have hS : va_S (va_A ((mm_W cy ad xr) σ) st.heap.size) st.heap st.heap [] := va_S.rf
  generalize va_A ((mm_W cy ad xr) σ) st.heap.size = A at hD hA hS ⊢
  have hl := lv_entry ([.ref (ad 0), .int a, .int b]) (n := 3) (Nat.le_of_ble_eq_true rfl)
  rw [lg_entry_eq]
  generalize (lg_sl ([.ref (ad 0), .int a, .int b]) ++ List.replicate (3 - (lg_sl ([.ref (ad 0), .int a, .int b])).length) Slot.unset).toArray = ls at hl ⊢
  have hl : lv_has ls 3 [(0, .ref (ad 0)), (1, .int a), (2, .int b)] := hl
  refine lv_aload_n hx hb dX4_frame_0 rfl (lv_at hl 0 rfl) ?_
  refine lv_iconst (v := nI 0) hx hb dX4_frame_1 (by decide) ?_
  refine me_put (ty := .int) (ci := 4) (C := RX4) (T := TX4) (M := 29) hx hb hts in4 tyX4 tyX4_ok nmX4 hown hK hP hD hS 0 (by omega) (mm_0 cy ad _) rfl 0 (by decide) k75 (fun _ h9 => h9) rfl (by decide +kernel) rfl rfl (Nat.le_of_ble_eq_true rfl) (mm_0 cy ad _) dX4_frame_2 (fun s2 H locs e2 hP hD hS => ?_)
  have J30 : ∀ (z : Int32) (s : me_M) (H : Heap) (locs : List Loc) (hP : va_P D vwCl ((mm_W cy ad xr) s) H) (hD : va_D A ((mm_W cy ad xr) s)) (hS : va_S A st.heap H locs) (ls : Array Slot) (hl : lv_has ls 3 [(0, .ref (ad 0)), (1, .int a), (2, .int b)]), ∀ (h0 : s 0 0 = nI 0), ∀ (hI : m_I s), ∀ (hz : z = nI 1 ∨ (z = nI 0 ∧ vp_in a 4 ∧ vp_in b 19)), m_frame a b σ = m_frame_30 a b z s → W p l e (headSpec wsX4_frame ({ frames := 1, cells := 0, slots := 0, locals := 22 })).room st m ([.ref (ad 0), .int a, .int b] : List Value).toArray below meth c H locs 0 0 (MQ below (va_Qi (fun r σ' => (r, σ') = m_frame a b σ) (me_B D (me_T cy) A (mm_W cy ad xr)) A) ([.ref (ad 0), .int a, .int b] : List Value).toArray st 0 0 A) (F0 m 30 ls [.int z, .ref (ad 0)]) := by
    intro z s H locs hP hD hS ls hl h0 hI hz hf30
    refine lv_iconst (v := nI 1) hx hb dX4_frame_30 (by decide) ?_
    refine me_calli (f := m_ref z (nI 1) s) (w := (mm_W cy ad xr)) (σ := s) (As := [.int z, .int (nI 1)]) (rest := []) ⟨hx, hb, hml, hown, hts⟩ (fun sz => c_X4_refuses l D cy ad xr z (nI 1) s  sz) (cwV 2 hts gX4_frame_X4_refuses rfl rfl rfl (by decide +kernel) ⟨Nat.le_of_ble_eq_true rfl, Nat.le_of_ble_eq_true rfl⟩) (va_recv hK hP (ci := 4) (q0 := 0) rfl (me_get (by omega) (mm_0 cy ad _))) hK hP hD hS hA rfl hl.1 rfl (Nat.le_of_ble_eq_true rfl) dX4_frame_31 ⟨Nat.zero_le _, Nat.zero_le _⟩ (fun r31 s31 H locs e31 hP hD hS => ?_)
    refine lv_if_eq (tgt := 39) hx hb dX4_frame_34 (by decide) (fun c34 => ?_) (fun c34 => ?_)
    ·
      have hB := pu_or e31 h0 (by decide) c34 hz
      refine lv_iload_n hx hb dX4_frame_39 rfl (lv_at hl 2 rfl) ?_
      refine lv_if_eq (tgt := 53) hx hb dX4_frame_40 (by decide) (fun c40 => ?_) (fun c40 => ?_)
      ·
        refine lv_iload_n hx hb dX4_frame_53 rfl (lv_at hl 2 rfl) ?_
        refine lv_if_ne (tgt := 66) hx hb dX4_frame_54 (by decide) (fun c54 => ?_) (fun c54 => ?_)
        ·
          refine lv_iconst (v := nI 0) hx hb dX4_frame_66 (by decide) ?_
          exact me_reti hx hb hr rfl hlocks hK hP hD hS (by first | (rw [hf30]; simp only [m_frame_30, e31, if_pos c34, if_pos c40, if_neg c54]; done) | contradiction) dX4_frame_67
        ·
          refine lv_aload_n hx hb dX4_frame_57 rfl (lv_at hl 0 rfl) ?_
          refine va_get (D := D) (ci := 4) (v := .ref (ad 10)) (C := RX4) (T := TX4) (N := 29) hx hb hts in4 hown hK hP 0 (me_get (by omega) (mm_0 cy ad _)) rfl 11 (by decide) k41 (fun _ h9 => h9) rfl dX4_frame_58 ?_
          refine lv_iload_n hx hb dX4_frame_61 rfl (lv_at hl 1 rfl) ?_
          have b61 := me_inb hB.1
          refine me_top (me_ine hB.1) ?_
          refine me_iald hx hb hK hP 10 0 (by omega) (fun f => mm_10 cy ad f) rfl a.toNatClampNeg rfl (by omega) (by decide) dX4_frame_62 ?_
          refine lv_goto (tgt := 67) hx hb dX4_frame_63 (by decide) ?_
          exact me_reti hx hb hr rfl hlocks hK hP hD hS (by first | (rw [hf30]; simp only [m_frame_30, e31, if_pos c34, if_pos c40, if_pos c54]; done) | contradiction) dX4_frame_67
      ·
        refine lv_aload_n hx hb dX4_frame_43 rfl (lv_at hl 0 rfl) ?_
        refine va_get (D := D) (ci := 4) (v := .ref (ad 10)) (C := RX4) (T := TX4) (N := 29) hx hb hts in4 hown hK hP 0 (me_get (by omega) (mm_0 cy ad _)) rfl 11 (by decide) k41 (fun _ h9 => h9) rfl dX4_frame_44 ?_
        refine lv_iload_n hx hb dX4_frame_47 rfl (lv_at hl 1 rfl) ?_
        have b47 := me_inb hB.1
        refine me_top (me_ine hB.1) ?_
        refine me_iald hx hb hK hP 10 0 (by omega) (fun f => mm_10 cy ad f) rfl a.toNatClampNeg rfl (by omega) (by decide) dX4_frame_48 ?_
        refine lv_iconst (v := (-1)) hx hb dX4_frame_49 (by decide) ?_
        refine lv_icmp_ne (tgt := 68) hx hb dX4_frame_50 (by decide) (fun c50 => ?_) (fun c50 => ?_)
        ·
          refine lv_iload_n hx hb dX4_frame_68 rfl (lv_at hl 2 rfl) ?_
          refine lv_iconst (v := nI 1) hx hb dX4_frame_69 (by decide) ?_
          refine lv_icmp_ne (tgt := 82) hx hb dX4_frame_70 (by decide) (fun c70 => ?_) (fun c70 => ?_)
          ·
            refine lv_iload_n hx hb dX4_frame_82 rfl (lv_at hl 2 rfl) ?_
            refine lv_iconst (v := nI 2) hx hb dX4_frame_83 (by decide) ?_
            refine lv_icmp_ne (tgt := 104) hx hb dX4_frame_84 (by decide) (fun c84 => ?_) (fun c84 => ?_)
            ·
              have h3 := pu_ge3 hB.2 c40 c70 c84
              refine lv_aload_n hx hb dX4_frame_104 rfl (lv_at hl 0 rfl) ?_
              refine va_get (D := D) (ci := 4) (v := .ref (ad 14)) (C := RX4) (T := TX4) (N := 29) hx hb hts in4 hown hK hP 0 (me_get (by omega) (mm_0 cy ad _)) rfl 15 (by decide) k54 (fun _ h9 => h9) rfl dX4_frame_105 ?_
              refine lv_bipush (v := nI 16) hx hb dX4_frame_108 (by decide) ?_
              refine lv_iload_n hx hb dX4_frame_110 rfl (lv_at hl 1 rfl) ?_
              have b110 := me_inb hB.1
              refine me_top (me_ine hB.1) ?_
              refine lv_imul hx hb dX4_frame_111 ?_
              refine me_top (pk_mul _ _) ?_
              refine lv_iload_n hx hb dX4_frame_112 rfl (lv_at hl 2 rfl) ?_
              have b112 := me_inb hB.2
              refine me_top (me_ine hB.2) ?_
              refine lv_iadd hx hb dX4_frame_113 ?_
              refine me_top (nI_add _ _) ?_
              refine lv_iconst (v := nI 3) hx hb dX4_frame_114 (by decide) ?_
              refine lv_isub hx hb dX4_frame_115 ?_
              refine me_top (pk_sub (by omega)) ?_
              refine me_iald hx hb hK hP 14 0 (by omega) (fun f => mm_14 cy ad f) rfl ((16 * a.toNatClampNeg + b.toNatClampNeg) - 3) rfl (by omega) (by decide) dX4_frame_116 ?_
              exact me_reti hx hb hr rfl hlocks hK hP hD hS (by first | (rw [hf30]; simp only [m_frame_30, e31, if_pos c34, if_neg c40, if_neg c50, if_neg c70, if_neg c84]; done) | contradiction) dX4_frame_117
            ·
              refine lv_aload_n hx hb dX4_frame_87 rfl (lv_at hl 0 rfl) ?_
              refine va_get (D := D) (ci := 4) (v := .ref (ad 12)) (C := RX4) (T := TX4) (N := 29) hx hb hts in4 hown hK hP 0 (me_get (by omega) (mm_0 cy ad _)) rfl 13 (by decide) k47 (fun _ h9 => h9) rfl dX4_frame_88 ?_
              refine lv_iload_n hx hb dX4_frame_91 rfl (lv_at hl 1 rfl) ?_
              have b91 := me_inb hB.1
              refine me_top (me_ine hB.1) ?_
              refine me_zald hx hb hK hP 12 1 (by omega) (fun f => mm_12 cy ad f) rfl a.toNatClampNeg rfl (by omega) (by decide) dX4_frame_92 ?_
              refine lv_if_eq (tgt := 100) hx hb dX4_frame_93 (by decide) (fun c93 => ?_) (fun c93 => ?_)
              ·
                refine lv_iconst (v := nI 0) hx hb dX4_frame_100 (by decide) ?_
                refine lv_goto (tgt := 117) hx hb dX4_frame_101 (by decide) ?_
                exact me_reti hx hb hr rfl hlocks hK hP hD hS (by first | (rw [hf30]; simp only [m_frame_30, e31, if_pos c34, if_neg c40, if_neg c50, if_neg c70, if_pos c84, if_pos c93]; done) | contradiction) dX4_frame_117
              ·
                refine lv_iconst (v := nI 1) hx hb dX4_frame_96 (by decide) ?_
                refine lv_goto (tgt := 117) hx hb dX4_frame_97 (by decide) ?_
                exact me_reti hx hb hr rfl hlocks hK hP hD hS (by first | (rw [hf30]; simp only [m_frame_30, e31, if_pos c34, if_neg c40, if_neg c50, if_neg c70, if_pos c84, if_neg c93]; done) | contradiction) dX4_frame_117
          ·
            refine lv_aload_n hx hb dX4_frame_73 rfl (lv_at hl 0 rfl) ?_
            refine va_get (D := D) (ci := 4) (v := .ref (ad 11)) (C := RX4) (T := TX4) (N := 29) hx hb hts in4 hown hK hP 0 (me_get (by omega) (mm_0 cy ad _)) rfl 12 (by decide) k44 (fun _ h9 => h9) rfl dX4_frame_74 ?_
            refine lv_iload_n hx hb dX4_frame_77 rfl (lv_at hl 1 rfl) ?_
            have b77 := me_inb hB.1
            refine me_top (me_ine hB.1) ?_
            refine me_iald hx hb hK hP 11 0 (by omega) (fun f => mm_11 cy ad f) rfl a.toNatClampNeg rfl (by omega) (by decide) dX4_frame_78 ?_
            refine lv_goto (tgt := 117) hx hb dX4_frame_79 (by decide) ?_
            exact me_reti hx hb hr rfl hlocks hK hP hD hS (by first | (rw [hf30]; simp only [m_frame_30, e31, if_pos c34, if_neg c40, if_neg c50, if_pos c70]; done) | contradiction) dX4_frame_117
        ·
          refine lv_iload_n hx hb dX4_frame_53 rfl (lv_at hl 2 rfl) ?_
          refine lv_if_ne (tgt := 66) hx hb dX4_frame_54 (by decide) (fun c54 => ?_) (fun c54 => ?_)
          ·
            refine lv_iconst (v := nI 0) hx hb dX4_frame_66 (by decide) ?_
            exact me_reti hx hb hr rfl hlocks hK hP hD hS (by first | (rw [hf30]; simp only [m_frame_30, e31, if_pos c34, if_neg c40, if_pos c50, if_neg c54]; done) | contradiction) dX4_frame_67
          ·
            refine lv_aload_n hx hb dX4_frame_57 rfl (lv_at hl 0 rfl) ?_
            refine va_get (D := D) (ci := 4) (v := .ref (ad 10)) (C := RX4) (T := TX4) (N := 29) hx hb hts in4 hown hK hP 0 (me_get (by omega) (mm_0 cy ad _)) rfl 11 (by decide) k41 (fun _ h9 => h9) rfl dX4_frame_58 ?_
            refine lv_iload_n hx hb dX4_frame_61 rfl (lv_at hl 1 rfl) ?_
            have b61 := me_inb hB.1
            refine me_top (me_ine hB.1) ?_
            refine me_iald hx hb hK hP 10 0 (by omega) (fun f => mm_10 cy ad f) rfl a.toNatClampNeg rfl (by omega) (by decide) dX4_frame_62 ?_
            refine lv_goto (tgt := 67) hx hb dX4_frame_63 (by decide) ?_
            exact me_reti hx hb hr rfl hlocks hK hP hD hS (by first | (rw [hf30]; simp only [m_frame_30, e31, if_pos c34, if_neg c40, if_pos c50, if_pos c54]; done) | contradiction) dX4_frame_67
    ·
      refine lv_iconst (v := nI 0) hx hb dX4_frame_37 (by decide) ?_
      exact me_reti hx hb hr rfl hlocks hK hP hD hS (by first | (rw [hf30]; simp only [m_frame_30, e31, if_neg c34]; done) | contradiction) dX4_frame_38
  refine lv_aload_n hx hb dX4_frame_5 rfl (lv_at hl 0 rfl) ?_
  refine lv_iload_n hx hb dX4_frame_6 rfl (lv_at hl 1 rfl) ?_
  refine lv_iconst (v := nI 0) hx hb dX4_frame_7 (by decide) ?_
  refine lv_iconst (v := nI 3) hx hb dX4_frame_8 (by decide) ?_
  refine me_calls (As := [.int a, .int (nI 0), .int (nI 3)]) (rest := [.ref (ad 0)]) ⟨hx, hb, hml, hown, hts⟩ (c_X4_in l a (nI 0) (nI 3) ) (cwS 3 hts gX4_frame_X4_in rfl rfl rfl (by decide +kernel) ⟨Nat.le_of_ble_eq_true rfl, Nat.le_of_ble_eq_true rfl⟩) rfl hl.1 rfl (Nat.le_of_ble_eq_true rfl) dX4_frame_9 ⟨Nat.zero_le _, Nat.zero_le _⟩ ?_
  refine lv_if_eq (tgt := 25) hx hb dX4_frame_12 (by decide) (fun c12 => ?_) (fun c12 => ?_)
  ·
    refine lv_iconst (v := nI 1) hx hb dX4_frame_25 (by decide) ?_
    refine lv_goto (tgt := 30) hx hb dX4_frame_26 (by decide) ?_
    exact J30 (nI 1) s2 _ _ hP hD hS ls (lv_sub hl [0, 1, 2] rfl) (pu_thz e2) (pu_th_I e2 hI) (by first | exact Or.inl rfl | exact Or.inr ⟨rfl, pu_inn (by decide) c12, pu_inn (by decide) c22⟩) (by simp only [m_frame, e2, if_pos c12])
  ·
    refine lv_iload_n hx hb dX4_frame_15 rfl (lv_at hl 2 rfl) ?_
    refine lv_iconst (v := nI 0) hx hb dX4_frame_16 (by decide) ?_
    refine lv_bipush (v := nI 18) hx hb dX4_frame_17 (by decide) ?_
    refine me_calls (As := [.int b, .int (nI 0), .int (nI 18)]) (rest := [.ref (ad 0)]) ⟨hx, hb, hml, hown, hts⟩ (c_X4_in l b (nI 0) (nI 18) ) (cwS 3 hts gX4_frame_X4_in rfl rfl rfl (by decide +kernel) ⟨Nat.le_of_ble_eq_true rfl, Nat.le_of_ble_eq_true rfl⟩) rfl hl.1 rfl (Nat.le_of_ble_eq_true rfl) dX4_frame_19 ⟨Nat.zero_le _, Nat.zero_le _⟩ ?_
    refine lv_if_ne (tgt := 29) hx hb dX4_frame_22 (by decide) (fun c22 => ?_) (fun c22 => ?_)
    ·
      refine lv_iconst (v := nI 0) hx hb dX4_frame_29 (by decide) ?_
      exact J30 (nI 0) s2 _ _ hP hD hS ls (lv_sub hl [0, 1, 2] rfl) (pu_thz e2) (pu_th_I e2 hI) (by first | exact Or.inl rfl | exact Or.inr ⟨rfl, pu_inn (by decide) c12, pu_inn (by decide) c22⟩) (by simp only [m_frame, e2, if_neg c12, if_neg c22])
    ·
      refine lv_iconst (v := nI 1) hx hb dX4_frame_25 (by decide) ?_
      refine lv_goto (tgt := 30) hx hb dX4_frame_26 (by decide) ?_
      exact J30 (nI 1) s2 _ _ hP hD hS ls (lv_sub hl [0, 1, 2] rfl) (pu_thz e2) (pu_th_I e2 hI) (by first | exact Or.inl rfl | exact Or.inr ⟨rfl, pu_inn (by decide) c12, pu_inn (by decide) c22⟩) (by simp only [m_frame, e2, if_neg c12, if_pos c22])

def m_read_31 (a : Int32) (b : Int32) (z : Int32) (s : me_M) : Int32 × me_M := let q32 := m_ref z (nI 1) s; let r32 := q32.1; let s32 := q32.2; if r32 = 0 then (let q44 := m_ref (s32 0 25) (nI 2) s32; let r44 := q44.1; let s44 := q44.2; if r44 = 0 then (let q54 := m_br a.toNatClampNeg s44; let r54 := q54.1; let s54 := q54.2; if r54 = (-1) then (let s79 := me_st s54 0 23 (nI 0); if r54 = (-1) then (((-3), s79)) else ((nI 1, s79))) else (let s79 := me_st s54 0 23 (s54 14 (16 * r54.toNatClampNeg + b.toNatClampNeg)); if r54 = (-1) then (((-3), s79)) else ((nI 1, s79)))) else ((nI 0, s44))) else ((nI 0, s32))
def m_read (a : Int32) (b : Int32) (σ : me_M) : Int32 × me_M := let s2 := me_st σ 0 0 (nI 0); if (m_in a (nI 0) (nI 11)) = 0 then (m_read_31 a b (nI 1) s2) else (if (m_in b (nI 0) (nI 15)) = 0 then (m_read_31 a b (nI 1) s2) else (m_read_31 a b (nI 0) s2))
set_option maxRecDepth 100000 in
set_option maxHeartbeats 4000000 in
theorem c_X4_read (l : Launch) (D : va_G) (cy : Nat → ClassId) (ad : Nat → Nat) (xr : va_W) (a : Int32) (b : Int32) (σ : me_M) (hI : m_I σ) (sz : Nat) : me_Ci l yX4_read wsX4_read ({ frames := 5, cells := 0, slots := 0, locals := 115 }) D (me_T cy) (mm_W cy ad xr) [.ref (ad 0), .int a, .int b] sz σ (m_read a b σ) := by
  refine Met.ofW (cc := cX4_read) (maxL := 4) (ret := (some .int)) (by decide) rfl ?_
  intro p e st m args below meth c s₁ B hml hv
  obtain ⟨rfl, hsz, hP, hK, hD0⟩ := hv
  have hx := B.exec
  have hb := B.bytes
  have hr := B.returns
  have hts := atoms_spec (ws := wsX4_read) B.pre
  have hown : st.vm.findClass RX4 = some m.cls := findClass_of_methodNamed B.named
  have hlocks := B.notSynchronized
  have in4 : ∀ w ∈ u_ws RX4 TX4 29, w ∈ wsX4_read := by decide +kernel
  have k54 := hts (.fieldLink RX4 54 "TwinWritesModel" "frameWord" "[I") (by decide +kernel)
  have k75 := hts (.fieldLink RX4 75 "TwinWritesModel" "thrown" "I") (by decide +kernel)
  have k78 := hts (.fieldLink RX4 78 "TwinWritesModel" "isDown" "Z") (by decide +kernel)
  have k135 := hts (.fieldLink RX4 135 "TwinWritesModel" "got" "I") (by decide +kernel)
  subst hsz
  have hD := hD0.self (sz := st.heap.size)
  have hA : ∀ q : Nat, st.heap.size ≤ q → va_A ((mm_W cy ad xr) σ) st.heap.size q := fun q h => Or.inr h
  have hS : va_S (va_A ((mm_W cy ad xr) σ) st.heap.size) st.heap st.heap [] := va_S.rf
  generalize va_A ((mm_W cy ad xr) σ) st.heap.size = A at hD hA hS ⊢
  have hl := lv_entry ([.ref (ad 0), .int a, .int b]) (n := 4) (Nat.le_of_ble_eq_true rfl)
  rw [lg_entry_eq]
  generalize (lg_sl ([.ref (ad 0), .int a, .int b]) ++ List.replicate (4 - (lg_sl ([.ref (ad 0), .int a, .int b])).length) Slot.unset).toArray = ls at hl ⊢
  have hl : lv_has ls 4 [(0, .ref (ad 0)), (1, .int a), (2, .int b)] := hl
  refine lv_aload_n hx hb dX4_read_0 rfl (lv_at hl 0 rfl) ?_
  refine lv_iconst (v := nI 0) hx hb dX4_read_1 (by decide) ?_
  refine me_put (ty := .int) (ci := 4) (C := RX4) (T := TX4) (M := 29) hx hb hts in4 tyX4 tyX4_ok nmX4 hown hK hP hD hS 0 (by omega) (mm_0 cy ad _) rfl 0 (by decide) k75 (fun _ h9 => h9) rfl (by decide +kernel) rfl rfl (Nat.le_of_ble_eq_true rfl) (mm_0 cy ad _) dX4_read_2 (fun s2 H locs e2 hP hD hS => ?_)
  have J31 : ∀ (z : Int32) (s : me_M) (H : Heap) (locs : List Loc) (hP : va_P D vwCl ((mm_W cy ad xr) s) H) (hD : va_D A ((mm_W cy ad xr) s)) (hS : va_S A st.heap H locs) (ls : Array Slot) (hl : lv_has ls 4 [(0, .ref (ad 0)), (1, .int a), (2, .int b)]), ∀ (h0 : s 0 0 = nI 0), ∀ (hI : m_I s), ∀ (hz : z = nI 1 ∨ (z = nI 0 ∧ vp_in a 12 ∧ vp_in b 16)), m_read a b σ = m_read_31 a b z s → W p l e (headSpec wsX4_read ({ frames := 5, cells := 0, slots := 0, locals := 115 })).room st m ([.ref (ad 0), .int a, .int b] : List Value).toArray below meth c H locs 0 0 (MQ below (va_Qi (fun r σ' => (r, σ') = m_read a b σ) (me_B D (me_T cy) A (mm_W cy ad xr)) A) ([.ref (ad 0), .int a, .int b] : List Value).toArray st 0 0 A) (F0 m 31 ls [.int z, .ref (ad 0)]) := by
    intro z s H locs hP hD hS ls hl h0 hI hz hf31
    refine lv_iconst (v := nI 1) hx hb dX4_read_31 (by decide) ?_
    refine me_calli (f := m_ref z (nI 1) s) (w := (mm_W cy ad xr)) (σ := s) (As := [.int z, .int (nI 1)]) (rest := []) ⟨hx, hb, hml, hown, hts⟩ (fun sz => c_X4_refuses l D cy ad xr z (nI 1) s  sz) (cwV 2 hts gX4_read_X4_refuses rfl rfl rfl (by decide +kernel) ⟨Nat.le_of_ble_eq_true rfl, Nat.le_of_ble_eq_true rfl⟩) (va_recv hK hP (ci := 4) (q0 := 0) rfl (me_get (by omega) (mm_0 cy ad _))) hK hP hD hS hA rfl hl.1 rfl (Nat.le_of_ble_eq_true rfl) dX4_read_32 ⟨Nat.zero_le _, Nat.zero_le _⟩ (fun r32 s32 H locs e32 hP hD hS => ?_)
    refine lv_if_ne (tgt := 50) hx hb dX4_read_35 (by decide) (fun c35 => ?_) (fun c35 => ?_)
    ·
      refine lv_iconst (v := nI 0) hx hb dX4_read_50 (by decide) ?_
      exact me_reti hx hb hr rfl hlocks hK hP hD hS (by first | (rw [hf31]; simp only [m_read_31, e32, if_neg c35]; done) | contradiction) dX4_read_51
    ·
      have hB := pu_or e32 h0 (by decide) c35 hz
      refine lv_aload_n hx hb dX4_read_38 rfl (lv_at hl 0 rfl) ?_
      refine lv_aload_n hx hb dX4_read_39 rfl (lv_at hl 0 rfl) ?_
      refine va_get (D := D) (ci := 4) (v := .int (s32 0 25)) (C := RX4) (T := TX4) (N := 29) hx hb hts in4 hown hK hP 0 (me_get (by omega) (mm_0 cy ad _)) rfl 25 (by decide) k78 (fun _ h9 => h9) rfl dX4_read_40 ?_
      refine lv_iconst (v := nI 2) hx hb dX4_read_43 (by decide) ?_
      refine me_calli (f := m_ref (s32 0 25) (nI 2) s32) (w := (mm_W cy ad xr)) (σ := s32) (As := [.int (s32 0 25), .int (nI 2)]) (rest := []) ⟨hx, hb, hml, hown, hts⟩ (fun sz => c_X4_refuses l D cy ad xr (s32 0 25) (nI 2) s32  sz) (cwV 2 hts gX4_read_X4_refuses rfl rfl rfl (by decide +kernel) ⟨Nat.le_of_ble_eq_true rfl, Nat.le_of_ble_eq_true rfl⟩) (va_recv hK hP (ci := 4) (q0 := 0) rfl (me_get (by omega) (mm_0 cy ad _))) hK hP hD hS hA rfl hl.1 rfl (Nat.le_of_ble_eq_true rfl) dX4_read_44 ⟨Nat.zero_le _, Nat.zero_le _⟩ (fun r44 s44 H locs e44 hP hD hS => ?_)
      refine lv_if_eq (tgt := 52) hx hb dX4_read_47 (by decide) (fun c47 => ?_) (fun c47 => ?_)
      ·
        refine lv_aload_n hx hb dX4_read_52 rfl (lv_at hl 0 rfl) ?_
        refine lv_iload_n hx hb dX4_read_53 rfl (lv_at hl 1 rfl) ?_
        have b53 := me_inb hB.1
        refine me_top (me_ine hB.1) ?_
        refine me_calli (f := m_br a.toNatClampNeg s44) (w := (mm_W cy ad xr)) (σ := s44) (As := [.int (nI a.toNatClampNeg)]) (rest := []) ⟨hx, hb, hml, hown, hts⟩ (fun sz => c_X4_bring l D cy ad xr a.toNatClampNeg s44 (by omega) (pu_ref_I e44 (pu_ref_I e32 hI)) sz) (cwV 1 hts gX4_read_X4_bring rfl rfl rfl (by decide +kernel) ⟨Nat.le_of_ble_eq_true rfl, Nat.le_of_ble_eq_true rfl⟩) (va_recv hK hP (ci := 4) (q0 := 0) rfl (me_get (by omega) (mm_0 cy ad _))) hK hP hD hS hA rfl hl.1 rfl (Nat.le_of_ble_eq_true rfl) dX4_read_54 ⟨Nat.zero_le _, Nat.zero_le _⟩ (fun r54 s54 H locs e54 hP hD hS => ?_)
        refine lv_istore_n (lv' := [(3, .int r54), (0, .ref (ad 0)), (1, .int a), (2, .int b)]) hx hb dX4_read_57 rfl hl (by decide) rfl (fun ls hl => ?_)
        refine lv_aload_n hx hb dX4_read_58 rfl (lv_at hl 1 rfl) ?_
        refine lv_iload_n hx hb dX4_read_59 rfl (lv_at hl 0 rfl) ?_
        refine lv_iconst (v := (-1)) hx hb dX4_read_60 (by decide) ?_
        refine lv_icmp_ne (tgt := 68) hx hb dX4_read_61 (by decide) (fun c61 => ?_) (fun c61 => ?_)
        ·
          refine lv_aload_n hx hb dX4_read_68 rfl (lv_at hl 1 rfl) ?_
          refine va_get (D := D) (ci := 4) (v := .ref (ad 14)) (C := RX4) (T := TX4) (N := 29) hx hb hts in4 hown hK hP 0 (me_get (by omega) (mm_0 cy ad _)) rfl 15 (by decide) k54 (fun _ h9 => h9) rfl dX4_read_69 ?_
          refine lv_bipush (v := nI 16) hx hb dX4_read_72 (by decide) ?_
          refine lv_iload_n hx hb dX4_read_74 rfl (lv_at hl 0 rfl) ?_
          have b74 := me_inb (pu_mbr_in e54 b53 (pu_ref_I e44 (pu_ref_I e32 hI)) c61)
          refine me_top (me_ine (pu_mbr_in e54 b53 (pu_ref_I e44 (pu_ref_I e32 hI)) c61)) ?_
          refine lv_imul hx hb dX4_read_75 ?_
          refine me_top (pk_mul _ _) ?_
          refine lv_iload_n hx hb dX4_read_76 rfl (lv_at hl 3 rfl) ?_
          have b76 := me_inb hB.2
          refine me_top (me_ine hB.2) ?_
          refine lv_iadd hx hb dX4_read_77 ?_
          refine me_top (nI_add _ _) ?_
          refine me_iald hx hb hK hP 14 0 (by omega) (fun f => mm_14 cy ad f) rfl (16 * r54.toNatClampNeg + b.toNatClampNeg) rfl (by omega) (by decide) dX4_read_78 ?_
          refine me_put (ty := .int) (ci := 4) (C := RX4) (T := TX4) (M := 29) hx hb hts in4 tyX4 tyX4_ok nmX4 hown hK hP hD hS 0 (by omega) (mm_0 cy ad _) rfl 23 (by decide) k135 (fun _ h9 => h9) rfl (by decide +kernel) rfl rfl (Nat.le_of_ble_eq_true rfl) (mm_0 cy ad _) dX4_read_79 (fun s79 H locs e79 hP hD hS => ?_)
          refine lv_iload_n hx hb dX4_read_82 rfl (lv_at hl 0 rfl) ?_
          refine lv_iconst (v := (-1)) hx hb dX4_read_83 (by decide) ?_
          refine lv_icmp_ne (tgt := 92) hx hb dX4_read_84 (by decide) (fun c84 => ?_) (fun c84 => ?_)
          ·
            refine lv_iconst (v := nI 1) hx hb dX4_read_92 (by decide) ?_
            exact me_reti hx hb hr rfl hlocks hK hP hD hS (by first | (rw [hf31]; simp only [m_read_31, e32, if_pos c35, e44, if_pos c47, e54, if_neg c61, e79, if_neg c84]; done) | contradiction) dX4_read_93
          ·
            refine lv_bipush (v := (-3)) hx hb dX4_read_87 (by decide) ?_
            refine lv_goto (tgt := 93) hx hb dX4_read_89 (by decide) ?_
            exact me_reti hx hb hr rfl hlocks hK hP hD hS (by first | (rw [hf31]; simp only [m_read_31, e32, if_pos c35, e44, if_pos c47, e54, if_neg c61, e79, if_pos c84]; done) | contradiction) dX4_read_93
        ·
          refine lv_iconst (v := nI 0) hx hb dX4_read_64 (by decide) ?_
          refine lv_goto (tgt := 79) hx hb dX4_read_65 (by decide) ?_
          refine me_put (ty := .int) (ci := 4) (C := RX4) (T := TX4) (M := 29) hx hb hts in4 tyX4 tyX4_ok nmX4 hown hK hP hD hS 0 (by omega) (mm_0 cy ad _) rfl 23 (by decide) k135 (fun _ h9 => h9) rfl (by decide +kernel) rfl rfl (Nat.le_of_ble_eq_true rfl) (mm_0 cy ad _) dX4_read_79 (fun s79 H locs e79 hP hD hS => ?_)
          refine lv_iload_n hx hb dX4_read_82 rfl (lv_at hl 0 rfl) ?_
          refine lv_iconst (v := (-1)) hx hb dX4_read_83 (by decide) ?_
          refine lv_icmp_ne (tgt := 92) hx hb dX4_read_84 (by decide) (fun c84 => ?_) (fun c84 => ?_)
          ·
            refine lv_iconst (v := nI 1) hx hb dX4_read_92 (by decide) ?_
            exact me_reti hx hb hr rfl hlocks hK hP hD hS (by first | (rw [hf31]; simp only [m_read_31, e32, if_pos c35, e44, if_pos c47, e54, if_pos c61, e79, if_neg c84]; done) | contradiction) dX4_read_93
          ·
            refine lv_bipush (v := (-3)) hx hb dX4_read_87 (by decide) ?_
            refine lv_goto (tgt := 93) hx hb dX4_read_89 (by decide) ?_
            exact me_reti hx hb hr rfl hlocks hK hP hD hS (by first | (rw [hf31]; simp only [m_read_31, e32, if_pos c35, e44, if_pos c47, e54, if_pos c61, e79, if_pos c84]; done) | contradiction) dX4_read_93
      ·
        refine lv_iconst (v := nI 0) hx hb dX4_read_50 (by decide) ?_
        exact me_reti hx hb hr rfl hlocks hK hP hD hS (by first | (rw [hf31]; simp only [m_read_31, e32, if_pos c35, e44, if_neg c47]; done) | contradiction) dX4_read_51
  refine lv_aload_n hx hb dX4_read_5 rfl (lv_at hl 0 rfl) ?_
  refine lv_iload_n hx hb dX4_read_6 rfl (lv_at hl 1 rfl) ?_
  refine lv_iconst (v := nI 0) hx hb dX4_read_7 (by decide) ?_
  refine lv_bipush (v := nI 11) hx hb dX4_read_8 (by decide) ?_
  refine me_calls (As := [.int a, .int (nI 0), .int (nI 11)]) (rest := [.ref (ad 0)]) ⟨hx, hb, hml, hown, hts⟩ (c_X4_in l a (nI 0) (nI 11) ) (cwS 3 hts gX4_read_X4_in rfl rfl rfl (by decide +kernel) ⟨Nat.le_of_ble_eq_true rfl, Nat.le_of_ble_eq_true rfl⟩) rfl hl.1 rfl (Nat.le_of_ble_eq_true rfl) dX4_read_10 ⟨Nat.zero_le _, Nat.zero_le _⟩ ?_
  refine lv_if_eq (tgt := 26) hx hb dX4_read_13 (by decide) (fun c13 => ?_) (fun c13 => ?_)
  ·
    refine lv_iconst (v := nI 1) hx hb dX4_read_26 (by decide) ?_
    refine lv_goto (tgt := 31) hx hb dX4_read_27 (by decide) ?_
    exact J31 (nI 1) s2 _ _ hP hD hS ls (lv_sub hl [0, 1, 2] rfl) (pu_thz e2) (pu_th_I e2 hI) (by first | exact Or.inl rfl | exact Or.inr ⟨rfl, pu_inn (by decide) c13, pu_inn (by decide) c23⟩) (by simp only [m_read, e2, if_pos c13])
  ·
    refine lv_iload_n hx hb dX4_read_16 rfl (lv_at hl 2 rfl) ?_
    refine lv_iconst (v := nI 0) hx hb dX4_read_17 (by decide) ?_
    refine lv_bipush (v := nI 15) hx hb dX4_read_18 (by decide) ?_
    refine me_calls (As := [.int b, .int (nI 0), .int (nI 15)]) (rest := [.ref (ad 0)]) ⟨hx, hb, hml, hown, hts⟩ (c_X4_in l b (nI 0) (nI 15) ) (cwS 3 hts gX4_read_X4_in rfl rfl rfl (by decide +kernel) ⟨Nat.le_of_ble_eq_true rfl, Nat.le_of_ble_eq_true rfl⟩) rfl hl.1 rfl (Nat.le_of_ble_eq_true rfl) dX4_read_20 ⟨Nat.zero_le _, Nat.zero_le _⟩ ?_
    refine lv_if_ne (tgt := 30) hx hb dX4_read_23 (by decide) (fun c23 => ?_) (fun c23 => ?_)
    ·
      refine lv_iconst (v := nI 0) hx hb dX4_read_30 (by decide) ?_
      exact J31 (nI 0) s2 _ _ hP hD hS ls (lv_sub hl [0, 1, 2] rfl) (pu_thz e2) (pu_th_I e2 hI) (by first | exact Or.inl rfl | exact Or.inr ⟨rfl, pu_inn (by decide) c13, pu_inn (by decide) c23⟩) (by simp only [m_read, e2, if_neg c13, if_neg c23])
    ·
      refine lv_iconst (v := nI 1) hx hb dX4_read_26 (by decide) ?_
      refine lv_goto (tgt := 31) hx hb dX4_read_27 (by decide) ?_
      exact J31 (nI 1) s2 _ _ hP hD hS ls (lv_sub hl [0, 1, 2] rfl) (pu_thz e2) (pu_th_I e2 hI) (by first | exact Or.inl rfl | exact Or.inr ⟨rfl, pu_inn (by decide) c13, pu_inn (by decide) c23⟩) (by simp only [m_read, e2, if_neg c13, if_pos c23])

def m_disk_132 (a : Int32) (b : Int32) (d : Int32) (z : Int32) (s : me_M) : Int32 × me_M := let q133 := m_ref z (nI 1) s; let r133 := q133.1; let s133 := q133.2; if r133 = 0 then (if a = 0 then (if nI 16 ≤ (nI d.toNatClampNeg) then ((s133 1 ((4 * b.toNatClampNeg + d.toNatClampNeg) - 16), s133)) else ((s133 2 (16 * b.toNatClampNeg + d.toNatClampNeg), s133))) else (if a = nI 1 then (if nI 16 ≤ (nI d.toNatClampNeg) then (if nI 20 ≤ (nI d.toNatClampNeg) then ((s133 4 ((4 * b.toNatClampNeg + d.toNatClampNeg) - 20), s133)) else ((s133 3 ((4 * b.toNatClampNeg + d.toNatClampNeg) - 16), s133))) else ((s133 5 (16 * b.toNatClampNeg + d.toNatClampNeg), s133))) else (if a = nI 3 then ((s133 0 10, s133)) else (if d = 0 then ((s133 6 b.toNatClampNeg, s133)) else (if d = nI 1 then ((s133 7 b.toNatClampNeg, s133)) else (if d = nI 2 then ((s133 8 b.toNatClampNeg, s133)) else ((s133 9 b.toNatClampNeg, s133)))))))) else ((nI 0, s133))
def m_disk (a : Int32) (b : Int32) (d : Int32) (σ : me_M) : Int32 × me_M := let s2 := me_st σ 0 0 (nI 0); if a = 0 then (if (m_in b (nI 0) (nI 11)) = 0 then (if (nI 0) = 0 then (m_disk_132 a b d (nI 1) s2) else (m_disk_132 a b d (nI 0) s2)) else (if (m_in d (nI 0) (nI 19)) = 0 then (if (nI 0) = 0 then (m_disk_132 a b d (nI 1) s2) else (m_disk_132 a b d (nI 0) s2)) else (if (nI 1) = 0 then (m_disk_132 a b d (nI 1) s2) else (m_disk_132 a b d (nI 0) s2)))) else (if a = nI 1 then (if (m_in b (nI 0) (nI 3)) = 0 then (if (nI 0) = 0 then (m_disk_132 a b d (nI 1) s2) else (m_disk_132 a b d (nI 0) s2)) else (if (m_in d (nI 0) (nI 23)) = 0 then (if (nI 0) = 0 then (m_disk_132 a b d (nI 1) s2) else (m_disk_132 a b d (nI 0) s2)) else (if (nI 1) = 0 then (m_disk_132 a b d (nI 1) s2) else (m_disk_132 a b d (nI 0) s2)))) else (if a = nI 2 then (if (m_in b (nI 0) (nI 11)) = 0 then (if (nI 0) = 0 then (m_disk_132 a b d (nI 1) s2) else (m_disk_132 a b d (nI 0) s2)) else (if (m_in d (nI 0) (nI 3)) = 0 then (if (nI 0) = 0 then (m_disk_132 a b d (nI 1) s2) else (m_disk_132 a b d (nI 0) s2)) else (if (nI 1) = 0 then (m_disk_132 a b d (nI 1) s2) else (m_disk_132 a b d (nI 0) s2)))) else (if a = nI 3 then (if b = 0 then (if d = 0 then (if (nI 1) = 0 then (m_disk_132 a b d (nI 1) s2) else (m_disk_132 a b d (nI 0) s2)) else (if (nI 0) = 0 then (m_disk_132 a b d (nI 1) s2) else (m_disk_132 a b d (nI 0) s2))) else (if (nI 0) = 0 then (m_disk_132 a b d (nI 1) s2) else (m_disk_132 a b d (nI 0) s2))) else (if (nI 0) = 0 then (m_disk_132 a b d (nI 1) s2) else (m_disk_132 a b d (nI 0) s2)))))
set_option maxRecDepth 100000 in
set_option maxHeartbeats 4000000 in
theorem c_X4_disk (l : Launch) (D : va_G) (cy : Nat → ClassId) (ad : Nat → Nat) (xr : va_W) (a : Int32) (b : Int32) (d : Int32) (σ : me_M) (hI : m_I σ) (sz : Nat) : me_Ci l yX4_disk wsX4_disk ({ frames := 1, cells := 0, slots := 0, locals := 22 }) D (me_T cy) (mm_W cy ad xr) [.ref (ad 0), .int a, .int b, .int d] sz σ (m_disk a b d σ) := by
  refine Met.ofW (cc := cX4_disk) (maxL := 5) (ret := (some .int)) (by decide) rfl ?_
  intro p e st m args below meth c s₁ B hml hv
  obtain ⟨rfl, hsz, hP, hK, hD0⟩ := hv
  have hx := B.exec
  have hb := B.bytes
  have hr := B.returns
  have hts := atoms_spec (ws := wsX4_disk) B.pre
  have hown : st.vm.findClass RX4 = some m.cls := findClass_of_methodNamed B.named
  have hlocks := B.notSynchronized
  have in4 : ∀ w ∈ u_ws RX4 TX4 29, w ∈ wsX4_disk := by decide +kernel
  have k7 := hts (.fieldLink RX4 7 "TwinWritesModel" "homeStamp" "[I") (by decide +kernel)
  have k13 := hts (.fieldLink RX4 13 "TwinWritesModel" "homeWord" "[I") (by decide +kernel)
  have k16 := hts (.fieldLink RX4 16 "TwinWritesModel" "besideStamp" "[I") (by decide +kernel)
  have k19 := hts (.fieldLink RX4 19 "TwinWritesModel" "besidePage" "[I") (by decide +kernel)
  have k22 := hts (.fieldLink RX4 22 "TwinWritesModel" "besideWord" "[I") (by decide +kernel)
  have k25 := hts (.fieldLink RX4 25 "TwinWritesModel" "logNumber" "[I") (by decide +kernel)
  have k28 := hts (.fieldLink RX4 28 "TwinWritesModel" "logPage" "[I") (by decide +kernel)
  have k31 := hts (.fieldLink RX4 31 "TwinWritesModel" "logWhich" "[I") (by decide +kernel)
  have k34 := hts (.fieldLink RX4 34 "TwinWritesModel" "logWord" "[I") (by decide +kernel)
  have k37 := hts (.fieldLink RX4 37 "TwinWritesModel" "mark" "I") (by decide +kernel)
  have k75 := hts (.fieldLink RX4 75 "TwinWritesModel" "thrown" "I") (by decide +kernel)
  subst hsz
  have hD := hD0.self (sz := st.heap.size)
  have hA : ∀ q : Nat, st.heap.size ≤ q → va_A ((mm_W cy ad xr) σ) st.heap.size q := fun q h => Or.inr h
  have hS : va_S (va_A ((mm_W cy ad xr) σ) st.heap.size) st.heap st.heap [] := va_S.rf
  generalize va_A ((mm_W cy ad xr) σ) st.heap.size = A at hD hA hS ⊢
  have hl := lv_entry ([.ref (ad 0), .int a, .int b, .int d]) (n := 5) (Nat.le_of_ble_eq_true rfl)
  rw [lg_entry_eq]
  generalize (lg_sl ([.ref (ad 0), .int a, .int b, .int d]) ++ List.replicate (5 - (lg_sl ([.ref (ad 0), .int a, .int b, .int d])).length) Slot.unset).toArray = ls at hl ⊢
  have hl : lv_has ls 5 [(0, .ref (ad 0)), (1, .int a), (2, .int b), (3, .int d)] := hl
  refine lv_aload_n hx hb dX4_disk_0 rfl (lv_at hl 0 rfl) ?_
  refine lv_iconst (v := nI 0) hx hb dX4_disk_1 (by decide) ?_
  refine me_put (ty := .int) (ci := 4) (C := RX4) (T := TX4) (M := 29) hx hb hts in4 tyX4 tyX4_ok nmX4 hown hK hP hD hS 0 (by omega) (mm_0 cy ad _) rfl 0 (by decide) k75 (fun _ h9 => h9) rfl (by decide +kernel) rfl rfl (Nat.le_of_ble_eq_true rfl) (mm_0 cy ad _) dX4_disk_2 (fun s2 H locs e2 hP hD hS => ?_)
  have J132 : ∀ (z : Int32) (s : me_M) (H : Heap) (locs : List Loc) (hP : va_P D vwCl ((mm_W cy ad xr) s) H) (hD : va_D A ((mm_W cy ad xr) s)) (hS : va_S A st.heap H locs) (ls : Array Slot) (hl : lv_has ls 5 [(0, .ref (ad 0)), (1, .int a), (2, .int b), (3, .int d)]), ∀ (h0 : s 0 0 = nI 0), ∀ (hz : z = nI 1 ∨ (z = nI 0 ∧ m_G a b d)), m_disk a b d σ = m_disk_132 a b d z s → W p l e (headSpec wsX4_disk ({ frames := 1, cells := 0, slots := 0, locals := 22 })).room st m ([.ref (ad 0), .int a, .int b, .int d] : List Value).toArray below meth c H locs 0 0 (MQ below (va_Qi (fun r σ' => (r, σ') = m_disk a b d σ) (me_B D (me_T cy) A (mm_W cy ad xr)) A) ([.ref (ad 0), .int a, .int b, .int d] : List Value).toArray st 0 0 A) (F0 m 132 ls [.int z, .ref (ad 0)]) := by
    intro z s H locs hP hD hS ls hl h0 hz hf132
    refine lv_iconst (v := nI 1) hx hb dX4_disk_132 (by decide) ?_
    refine me_calli (f := m_ref z (nI 1) s) (w := (mm_W cy ad xr)) (σ := s) (As := [.int z, .int (nI 1)]) (rest := []) ⟨hx, hb, hml, hown, hts⟩ (fun sz => c_X4_refuses l D cy ad xr z (nI 1) s  sz) (cwV 2 hts gX4_disk_X4_refuses rfl rfl rfl (by decide +kernel) ⟨Nat.le_of_ble_eq_true rfl, Nat.le_of_ble_eq_true rfl⟩) (va_recv hK hP (ci := 4) (q0 := 0) rfl (me_get (by omega) (mm_0 cy ad _))) hK hP hD hS hA rfl hl.1 rfl (Nat.le_of_ble_eq_true rfl) dX4_disk_133 ⟨Nat.zero_le _, Nat.zero_le _⟩ (fun r133 s133 H locs e133 hP hD hS => ?_)
    refine lv_if_eq (tgt := 141) hx hb dX4_disk_136 (by decide) (fun c136 => ?_) (fun c136 => ?_)
    ·
      have hB := pu_or e133 h0 (by decide) c136 hz
      refine lv_iload_n hx hb dX4_disk_141 rfl (lv_at hl 1 rfl) ?_
      refine lv_if_ne (tgt := 179) hx hb dX4_disk_142 (by decide) (fun c142 => ?_) (fun c142 => ?_)
      ·
        refine lv_iload_n hx hb dX4_disk_179 rfl (lv_at hl 1 rfl) ?_
        refine lv_iconst (v := nI 1) hx hb dX4_disk_180 (by decide) ?_
        refine lv_icmp_ne (tgt := 240) hx hb dX4_disk_181 (by decide) (fun c181 => ?_) (fun c181 => ?_)
        ·
          refine lv_iload_n hx hb dX4_disk_240 rfl (lv_at hl 1 rfl) ?_
          refine lv_iconst (v := nI 3) hx hb dX4_disk_241 (by decide) ?_
          refine lv_icmp_ne (tgt := 252) hx hb dX4_disk_242 (by decide) (fun c242 => ?_) (fun c242 => ?_)
          ·
            have hG := pu_g2 hB c142 c181 c242
            refine lv_iload_n hx hb dX4_disk_252 rfl (lv_at hl 3 rfl) ?_
            refine lv_if_ne (tgt := 265) hx hb dX4_disk_253 (by decide) (fun c253 => ?_) (fun c253 => ?_)
            ·
              refine lv_iload_n hx hb dX4_disk_265 rfl (lv_at hl 3 rfl) ?_
              refine lv_iconst (v := nI 1) hx hb dX4_disk_266 (by decide) ?_
              refine lv_icmp_ne (tgt := 279) hx hb dX4_disk_267 (by decide) (fun c267 => ?_) (fun c267 => ?_)
              ·
                refine lv_iload_n hx hb dX4_disk_279 rfl (lv_at hl 3 rfl) ?_
                refine lv_iconst (v := nI 2) hx hb dX4_disk_280 (by decide) ?_
                refine lv_icmp_ne (tgt := 293) hx hb dX4_disk_281 (by decide) (fun c281 => ?_) (fun c281 => ?_)
                ·
                  refine lv_aload_n hx hb dX4_disk_293 rfl (lv_at hl 0 rfl) ?_
                  refine va_get (D := D) (ci := 4) (v := .ref (ad 9)) (C := RX4) (T := TX4) (N := 29) hx hb hts in4 hown hK hP 0 (me_get (by omega) (mm_0 cy ad _)) rfl 9 (by decide) k34 (fun _ h9 => h9) rfl dX4_disk_294 ?_
                  refine lv_iload_n hx hb dX4_disk_297 rfl (lv_at hl 2 rfl) ?_
                  have b297 := me_inb hG.1
                  refine me_top (me_ine hG.1) ?_
                  refine me_iald hx hb hK hP 9 0 (by omega) (fun f => mm_9 cy ad f) rfl b.toNatClampNeg rfl (by omega) (by decide) dX4_disk_298 ?_
                  exact me_reti hx hb hr rfl hlocks hK hP hD hS (by first | (rw [hf132]; simp only [m_disk_132, e133, if_pos c136, if_neg c142, if_neg c181, if_neg c242, if_neg c253, if_neg c267, if_neg c281]; done) | contradiction) dX4_disk_299
                ·
                  refine lv_aload_n hx hb dX4_disk_284 rfl (lv_at hl 0 rfl) ?_
                  refine va_get (D := D) (ci := 4) (v := .ref (ad 8)) (C := RX4) (T := TX4) (N := 29) hx hb hts in4 hown hK hP 0 (me_get (by omega) (mm_0 cy ad _)) rfl 8 (by decide) k31 (fun _ h9 => h9) rfl dX4_disk_285 ?_
                  refine lv_iload_n hx hb dX4_disk_288 rfl (lv_at hl 2 rfl) ?_
                  have b288 := me_inb hG.1
                  refine me_top (me_ine hG.1) ?_
                  refine me_iald hx hb hK hP 8 0 (by omega) (fun f => mm_8 cy ad f) rfl b.toNatClampNeg rfl (by omega) (by decide) dX4_disk_289 ?_
                  refine lv_goto (tgt := 299) hx hb dX4_disk_290 (by decide) ?_
                  exact me_reti hx hb hr rfl hlocks hK hP hD hS (by first | (rw [hf132]; simp only [m_disk_132, e133, if_pos c136, if_neg c142, if_neg c181, if_neg c242, if_neg c253, if_neg c267, if_pos c281]; done) | contradiction) dX4_disk_299
              ·
                refine lv_aload_n hx hb dX4_disk_270 rfl (lv_at hl 0 rfl) ?_
                refine va_get (D := D) (ci := 4) (v := .ref (ad 7)) (C := RX4) (T := TX4) (N := 29) hx hb hts in4 hown hK hP 0 (me_get (by omega) (mm_0 cy ad _)) rfl 7 (by decide) k28 (fun _ h9 => h9) rfl dX4_disk_271 ?_
                refine lv_iload_n hx hb dX4_disk_274 rfl (lv_at hl 2 rfl) ?_
                have b274 := me_inb hG.1
                refine me_top (me_ine hG.1) ?_
                refine me_iald hx hb hK hP 7 0 (by omega) (fun f => mm_7 cy ad f) rfl b.toNatClampNeg rfl (by omega) (by decide) dX4_disk_275 ?_
                refine lv_goto (tgt := 299) hx hb dX4_disk_276 (by decide) ?_
                exact me_reti hx hb hr rfl hlocks hK hP hD hS (by first | (rw [hf132]; simp only [m_disk_132, e133, if_pos c136, if_neg c142, if_neg c181, if_neg c242, if_neg c253, if_pos c267]; done) | contradiction) dX4_disk_299
            ·
              refine lv_aload_n hx hb dX4_disk_256 rfl (lv_at hl 0 rfl) ?_
              refine va_get (D := D) (ci := 4) (v := .ref (ad 6)) (C := RX4) (T := TX4) (N := 29) hx hb hts in4 hown hK hP 0 (me_get (by omega) (mm_0 cy ad _)) rfl 6 (by decide) k25 (fun _ h9 => h9) rfl dX4_disk_257 ?_
              refine lv_iload_n hx hb dX4_disk_260 rfl (lv_at hl 2 rfl) ?_
              have b260 := me_inb hG.1
              refine me_top (me_ine hG.1) ?_
              refine me_iald hx hb hK hP 6 0 (by omega) (fun f => mm_6 cy ad f) rfl b.toNatClampNeg rfl (by omega) (by decide) dX4_disk_261 ?_
              refine lv_goto (tgt := 299) hx hb dX4_disk_262 (by decide) ?_
              exact me_reti hx hb hr rfl hlocks hK hP hD hS (by first | (rw [hf132]; simp only [m_disk_132, e133, if_pos c136, if_neg c142, if_neg c181, if_neg c242, if_pos c253]; done) | contradiction) dX4_disk_299
          ·
            refine lv_aload_n hx hb dX4_disk_245 rfl (lv_at hl 0 rfl) ?_
            refine va_get (D := D) (ci := 4) (v := .int (s133 0 10)) (C := RX4) (T := TX4) (N := 29) hx hb hts in4 hown hK hP 0 (me_get (by omega) (mm_0 cy ad _)) rfl 10 (by decide) k37 (fun _ h9 => h9) rfl dX4_disk_246 ?_
            refine lv_goto (tgt := 299) hx hb dX4_disk_249 (by decide) ?_
            exact me_reti hx hb hr rfl hlocks hK hP hD hS (by first | (rw [hf132]; simp only [m_disk_132, e133, if_pos c136, if_neg c142, if_neg c181, if_pos c242]; done) | contradiction) dX4_disk_299
        ·
          have hG := pu_g1 hB c181
          refine lv_iload_n hx hb dX4_disk_184 rfl (lv_at hl 3 rfl) ?_
          have b184 := me_inb hG.2
          refine me_top (me_ine hG.2) ?_
          refine lv_bipush (v := nI 16) hx hb dX4_disk_185 (by decide) ?_
          refine lv_icmp_ge (tgt := 204) hx hb dX4_disk_187 (by decide) (fun c187 => ?_) (fun c187 => ?_)
          ·
            try have h187 := (nI_leI (by omega) (by omega)).mp c187
            refine lv_iload_n hx hb dX4_disk_204 rfl (lv_at hl 3 rfl) ?_
            have b204 := me_inb hG.2
            refine me_top (me_ine hG.2) ?_
            refine lv_bipush (v := nI 20) hx hb dX4_disk_205 (by decide) ?_
            refine lv_icmp_ge (tgt := 226) hx hb dX4_disk_207 (by decide) (fun c207 => ?_) (fun c207 => ?_)
            ·
              try have h207 := (nI_leI (by omega) (by omega)).mp c207
              refine lv_aload_n hx hb dX4_disk_226 rfl (lv_at hl 0 rfl) ?_
              refine va_get (D := D) (ci := 4) (v := .ref (ad 4)) (C := RX4) (T := TX4) (N := 29) hx hb hts in4 hown hK hP 0 (me_get (by omega) (mm_0 cy ad _)) rfl 4 (by decide) k19 (fun _ h9 => h9) rfl dX4_disk_227 ?_
              refine lv_iconst (v := nI 4) hx hb dX4_disk_230 (by decide) ?_
              refine lv_iload_n hx hb dX4_disk_231 rfl (lv_at hl 2 rfl) ?_
              have b231 := me_inb hG.1
              refine me_top (me_ine hG.1) ?_
              refine lv_imul hx hb dX4_disk_232 ?_
              refine me_top (pk_mul _ _) ?_
              refine lv_iload_n hx hb dX4_disk_233 rfl (lv_at hl 3 rfl) ?_
              have b233 := me_inb hG.2
              refine me_top (me_ine hG.2) ?_
              refine lv_iadd hx hb dX4_disk_234 ?_
              refine me_top (nI_add _ _) ?_
              refine lv_bipush (v := nI 20) hx hb dX4_disk_235 (by decide) ?_
              refine lv_isub hx hb dX4_disk_237 ?_
              refine me_top (pk_sub (by omega)) ?_
              refine me_iald hx hb hK hP 4 0 (by omega) (fun f => mm_4 cy ad f) rfl ((4 * b.toNatClampNeg + d.toNatClampNeg) - 20) rfl (by omega) (by decide) dX4_disk_238 ?_
              exact me_reti hx hb hr rfl hlocks hK hP hD hS (by first | (rw [hf132]; simp only [m_disk_132, e133, if_pos c136, if_neg c142, if_pos c181, if_pos c187, if_pos c207]; done) | contradiction) dX4_disk_239
            ·
              try have h207 := (not_congr (nI_leI (by omega) (by omega))).mp c207
              refine lv_aload_n hx hb dX4_disk_210 rfl (lv_at hl 0 rfl) ?_
              refine va_get (D := D) (ci := 4) (v := .ref (ad 3)) (C := RX4) (T := TX4) (N := 29) hx hb hts in4 hown hK hP 0 (me_get (by omega) (mm_0 cy ad _)) rfl 3 (by decide) k16 (fun _ h9 => h9) rfl dX4_disk_211 ?_
              refine lv_iconst (v := nI 4) hx hb dX4_disk_214 (by decide) ?_
              refine lv_iload_n hx hb dX4_disk_215 rfl (lv_at hl 2 rfl) ?_
              have b215 := me_inb hG.1
              refine me_top (me_ine hG.1) ?_
              refine lv_imul hx hb dX4_disk_216 ?_
              refine me_top (pk_mul _ _) ?_
              refine lv_iload_n hx hb dX4_disk_217 rfl (lv_at hl 3 rfl) ?_
              have b217 := me_inb hG.2
              refine me_top (me_ine hG.2) ?_
              refine lv_iadd hx hb dX4_disk_218 ?_
              refine me_top (nI_add _ _) ?_
              refine lv_bipush (v := nI 16) hx hb dX4_disk_219 (by decide) ?_
              refine lv_isub hx hb dX4_disk_221 ?_
              refine me_top (pk_sub (by omega)) ?_
              refine me_iald hx hb hK hP 3 0 (by omega) (fun f => mm_3 cy ad f) rfl ((4 * b.toNatClampNeg + d.toNatClampNeg) - 16) rfl (by omega) (by decide) dX4_disk_222 ?_
              refine lv_goto (tgt := 239) hx hb dX4_disk_223 (by decide) ?_
              exact me_reti hx hb hr rfl hlocks hK hP hD hS (by first | (rw [hf132]; simp only [m_disk_132, e133, if_pos c136, if_neg c142, if_pos c181, if_pos c187, if_neg c207]; done) | contradiction) dX4_disk_239
          ·
            try have h187 := (not_congr (nI_leI (by omega) (by omega))).mp c187
            refine lv_aload_n hx hb dX4_disk_190 rfl (lv_at hl 0 rfl) ?_
            refine va_get (D := D) (ci := 4) (v := .ref (ad 5)) (C := RX4) (T := TX4) (N := 29) hx hb hts in4 hown hK hP 0 (me_get (by omega) (mm_0 cy ad _)) rfl 5 (by decide) k22 (fun _ h9 => h9) rfl dX4_disk_191 ?_
            refine lv_bipush (v := nI 16) hx hb dX4_disk_194 (by decide) ?_
            refine lv_iload_n hx hb dX4_disk_196 rfl (lv_at hl 2 rfl) ?_
            have b196 := me_inb hG.1
            refine me_top (me_ine hG.1) ?_
            refine lv_imul hx hb dX4_disk_197 ?_
            refine me_top (pk_mul _ _) ?_
            refine lv_iload_n hx hb dX4_disk_198 rfl (lv_at hl 3 rfl) ?_
            have b198 := me_inb hG.2
            refine me_top (me_ine hG.2) ?_
            refine lv_iadd hx hb dX4_disk_199 ?_
            refine me_top (nI_add _ _) ?_
            refine me_iald hx hb hK hP 5 0 (by omega) (fun f => mm_5 cy ad f) rfl (16 * b.toNatClampNeg + d.toNatClampNeg) rfl (by omega) (by decide) dX4_disk_200 ?_
            refine lv_goto (tgt := 239) hx hb dX4_disk_201 (by decide) ?_
            exact me_reti hx hb hr rfl hlocks hK hP hD hS (by first | (rw [hf132]; simp only [m_disk_132, e133, if_pos c136, if_neg c142, if_pos c181, if_neg c187]; done) | contradiction) dX4_disk_239
      ·
        have hG := pu_g0 hB c142
        refine lv_iload_n hx hb dX4_disk_145 rfl (lv_at hl 3 rfl) ?_
        have b145 := me_inb hG.2
        refine me_top (me_ine hG.2) ?_
        refine lv_bipush (v := nI 16) hx hb dX4_disk_146 (by decide) ?_
        refine lv_icmp_ge (tgt := 165) hx hb dX4_disk_148 (by decide) (fun c148 => ?_) (fun c148 => ?_)
        ·
          try have h148 := (nI_leI (by omega) (by omega)).mp c148
          refine lv_aload_n hx hb dX4_disk_165 rfl (lv_at hl 0 rfl) ?_
          refine va_get (D := D) (ci := 4) (v := .ref (ad 1)) (C := RX4) (T := TX4) (N := 29) hx hb hts in4 hown hK hP 0 (me_get (by omega) (mm_0 cy ad _)) rfl 1 (by decide) k7 (fun _ h9 => h9) rfl dX4_disk_166 ?_
          refine lv_iconst (v := nI 4) hx hb dX4_disk_169 (by decide) ?_
          refine lv_iload_n hx hb dX4_disk_170 rfl (lv_at hl 2 rfl) ?_
          have b170 := me_inb hG.1
          refine me_top (me_ine hG.1) ?_
          refine lv_imul hx hb dX4_disk_171 ?_
          refine me_top (pk_mul _ _) ?_
          refine lv_iload_n hx hb dX4_disk_172 rfl (lv_at hl 3 rfl) ?_
          have b172 := me_inb hG.2
          refine me_top (me_ine hG.2) ?_
          refine lv_iadd hx hb dX4_disk_173 ?_
          refine me_top (nI_add _ _) ?_
          refine lv_bipush (v := nI 16) hx hb dX4_disk_174 (by decide) ?_
          refine lv_isub hx hb dX4_disk_176 ?_
          refine me_top (pk_sub (by omega)) ?_
          refine me_iald hx hb hK hP 1 0 (by omega) (fun f => mm_1 cy ad f) rfl ((4 * b.toNatClampNeg + d.toNatClampNeg) - 16) rfl (by omega) (by decide) dX4_disk_177 ?_
          exact me_reti hx hb hr rfl hlocks hK hP hD hS (by first | (rw [hf132]; simp only [m_disk_132, e133, if_pos c136, if_pos c142, if_pos c148]; done) | contradiction) dX4_disk_178
        ·
          try have h148 := (not_congr (nI_leI (by omega) (by omega))).mp c148
          refine lv_aload_n hx hb dX4_disk_151 rfl (lv_at hl 0 rfl) ?_
          refine va_get (D := D) (ci := 4) (v := .ref (ad 2)) (C := RX4) (T := TX4) (N := 29) hx hb hts in4 hown hK hP 0 (me_get (by omega) (mm_0 cy ad _)) rfl 2 (by decide) k13 (fun _ h9 => h9) rfl dX4_disk_152 ?_
          refine lv_bipush (v := nI 16) hx hb dX4_disk_155 (by decide) ?_
          refine lv_iload_n hx hb dX4_disk_157 rfl (lv_at hl 2 rfl) ?_
          have b157 := me_inb hG.1
          refine me_top (me_ine hG.1) ?_
          refine lv_imul hx hb dX4_disk_158 ?_
          refine me_top (pk_mul _ _) ?_
          refine lv_iload_n hx hb dX4_disk_159 rfl (lv_at hl 3 rfl) ?_
          have b159 := me_inb hG.2
          refine me_top (me_ine hG.2) ?_
          refine lv_iadd hx hb dX4_disk_160 ?_
          refine me_top (nI_add _ _) ?_
          refine me_iald hx hb hK hP 2 0 (by omega) (fun f => mm_2 cy ad f) rfl (16 * b.toNatClampNeg + d.toNatClampNeg) rfl (by omega) (by decide) dX4_disk_161 ?_
          refine lv_goto (tgt := 178) hx hb dX4_disk_162 (by decide) ?_
          exact me_reti hx hb hr rfl hlocks hK hP hD hS (by first | (rw [hf132]; simp only [m_disk_132, e133, if_pos c136, if_pos c142, if_neg c148]; done) | contradiction) dX4_disk_178
    ·
      refine lv_iconst (v := nI 0) hx hb dX4_disk_139 (by decide) ?_
      exact me_reti hx hb hr rfl hlocks hK hP hD hS (by first | (rw [hf132]; simp only [m_disk_132, e133, if_neg c136]; done) | contradiction) dX4_disk_140
  refine lv_iload_n hx hb dX4_disk_5 rfl (lv_at hl 1 rfl) ?_
  refine lv_if_ne (tgt := 37) hx hb dX4_disk_6 (by decide) (fun c6 => ?_) (fun c6 => ?_)
  ·
    refine lv_iload_n hx hb dX4_disk_37 rfl (lv_at hl 1 rfl) ?_
    refine lv_iconst (v := nI 1) hx hb dX4_disk_38 (by decide) ?_
    refine lv_icmp_ne (tgt := 69) hx hb dX4_disk_39 (by decide) (fun c39 => ?_) (fun c39 => ?_)
    ·
      refine lv_iload_n hx hb dX4_disk_69 rfl (lv_at hl 1 rfl) ?_
      refine lv_iconst (v := nI 2) hx hb dX4_disk_70 (by decide) ?_
      refine lv_icmp_ne (tgt := 101) hx hb dX4_disk_71 (by decide) (fun c71 => ?_) (fun c71 => ?_)
      ·
        refine lv_iload_n hx hb dX4_disk_101 rfl (lv_at hl 1 rfl) ?_
        refine lv_iconst (v := nI 3) hx hb dX4_disk_102 (by decide) ?_
        refine lv_icmp_ne (tgt := 118) hx hb dX4_disk_103 (by decide) (fun c103 => ?_) (fun c103 => ?_)
        ·
          refine lv_iconst (v := nI 0) hx hb dX4_disk_118 (by decide) ?_
          refine lv_istore (lv' := [(4, .int (nI 0)), (0, .ref (ad 0)), (1, .int a), (2, .int b), (3, .int d)]) hx hb dX4_disk_119 hl (by decide) rfl (fun ls hl => ?_)
          refine lv_aload_n hx hb dX4_disk_121 rfl (lv_at hl 1 rfl) ?_
          refine lv_iload hx hb dX4_disk_122 (lv_at hl 0 rfl) ?_
          refine lv_if_ne (tgt := 131) hx hb dX4_disk_124 (by decide) (fun c124 => ?_) (fun c124 => ?_)
          ·
            refine lv_iconst (v := nI 0) hx hb dX4_disk_131 (by decide) ?_
            exact J132 (nI 0) s2 _ _ hP hD hS ls (lv_sub hl [1, 2, 3, 4] rfl) (pu_thz e2) (by first | exact Or.inl rfl | exact Or.inr ⟨rfl, Or.inl ⟨c6, pu_inn (by decide) c16, pu_inn (by decide) c26⟩⟩ | exact Or.inr ⟨rfl, Or.inr (Or.inl ⟨c39, pu_inn (by decide) c48, pu_inn (by decide) c58⟩)⟩ | exact Or.inr ⟨rfl, Or.inr (Or.inr (Or.inl ⟨c71, pu_inn (by decide) c81, pu_inn (by decide) c90⟩))⟩ | exact Or.inr ⟨rfl, Or.inr (Or.inr (Or.inr ⟨c103, c107, c111⟩))⟩ | exact absurd nI_0 c124) (by simp only [m_disk, e2, if_neg c6, if_neg c39, if_neg c71, if_neg c103, if_neg c124])
          ·
            refine lv_iconst (v := nI 1) hx hb dX4_disk_127 (by decide) ?_
            refine lv_goto (tgt := 132) hx hb dX4_disk_128 (by decide) ?_
            exact J132 (nI 1) s2 _ _ hP hD hS ls (lv_sub hl [1, 2, 3, 4] rfl) (pu_thz e2) (by first | exact Or.inl rfl | exact Or.inr ⟨rfl, Or.inl ⟨c6, pu_inn (by decide) c16, pu_inn (by decide) c26⟩⟩ | exact Or.inr ⟨rfl, Or.inr (Or.inl ⟨c39, pu_inn (by decide) c48, pu_inn (by decide) c58⟩)⟩ | exact Or.inr ⟨rfl, Or.inr (Or.inr (Or.inl ⟨c71, pu_inn (by decide) c81, pu_inn (by decide) c90⟩))⟩ | exact Or.inr ⟨rfl, Or.inr (Or.inr (Or.inr ⟨c103, c107, c111⟩))⟩ | exact absurd nI_0 c124) (by simp only [m_disk, e2, if_neg c6, if_neg c39, if_neg c71, if_neg c103, if_pos c124])
        ·
          refine lv_iload_n hx hb dX4_disk_106 rfl (lv_at hl 2 rfl) ?_
          refine lv_if_ne (tgt := 118) hx hb dX4_disk_107 (by decide) (fun c107 => ?_) (fun c107 => ?_)
          ·
            refine lv_iconst (v := nI 0) hx hb dX4_disk_118 (by decide) ?_
            refine lv_istore (lv' := [(4, .int (nI 0)), (0, .ref (ad 0)), (1, .int a), (2, .int b), (3, .int d)]) hx hb dX4_disk_119 hl (by decide) rfl (fun ls hl => ?_)
            refine lv_aload_n hx hb dX4_disk_121 rfl (lv_at hl 1 rfl) ?_
            refine lv_iload hx hb dX4_disk_122 (lv_at hl 0 rfl) ?_
            refine lv_if_ne (tgt := 131) hx hb dX4_disk_124 (by decide) (fun c124 => ?_) (fun c124 => ?_)
            ·
              refine lv_iconst (v := nI 0) hx hb dX4_disk_131 (by decide) ?_
              exact J132 (nI 0) s2 _ _ hP hD hS ls (lv_sub hl [1, 2, 3, 4] rfl) (pu_thz e2) (by first | exact Or.inl rfl | exact Or.inr ⟨rfl, Or.inl ⟨c6, pu_inn (by decide) c16, pu_inn (by decide) c26⟩⟩ | exact Or.inr ⟨rfl, Or.inr (Or.inl ⟨c39, pu_inn (by decide) c48, pu_inn (by decide) c58⟩)⟩ | exact Or.inr ⟨rfl, Or.inr (Or.inr (Or.inl ⟨c71, pu_inn (by decide) c81, pu_inn (by decide) c90⟩))⟩ | exact Or.inr ⟨rfl, Or.inr (Or.inr (Or.inr ⟨c103, c107, c111⟩))⟩ | exact absurd nI_0 c124) (by simp only [m_disk, e2, if_neg c6, if_neg c39, if_neg c71, if_pos c103, if_neg c107, if_neg c124])
            ·
              refine lv_iconst (v := nI 1) hx hb dX4_disk_127 (by decide) ?_
              refine lv_goto (tgt := 132) hx hb dX4_disk_128 (by decide) ?_
              exact J132 (nI 1) s2 _ _ hP hD hS ls (lv_sub hl [1, 2, 3, 4] rfl) (pu_thz e2) (by first | exact Or.inl rfl | exact Or.inr ⟨rfl, Or.inl ⟨c6, pu_inn (by decide) c16, pu_inn (by decide) c26⟩⟩ | exact Or.inr ⟨rfl, Or.inr (Or.inl ⟨c39, pu_inn (by decide) c48, pu_inn (by decide) c58⟩)⟩ | exact Or.inr ⟨rfl, Or.inr (Or.inr (Or.inl ⟨c71, pu_inn (by decide) c81, pu_inn (by decide) c90⟩))⟩ | exact Or.inr ⟨rfl, Or.inr (Or.inr (Or.inr ⟨c103, c107, c111⟩))⟩ | exact absurd nI_0 c124) (by simp only [m_disk, e2, if_neg c6, if_neg c39, if_neg c71, if_pos c103, if_neg c107, if_pos c124])
          ·
            refine lv_iload_n hx hb dX4_disk_110 rfl (lv_at hl 3 rfl) ?_
            refine lv_if_ne (tgt := 118) hx hb dX4_disk_111 (by decide) (fun c111 => ?_) (fun c111 => ?_)
            ·
              refine lv_iconst (v := nI 0) hx hb dX4_disk_118 (by decide) ?_
              refine lv_istore (lv' := [(4, .int (nI 0)), (0, .ref (ad 0)), (1, .int a), (2, .int b), (3, .int d)]) hx hb dX4_disk_119 hl (by decide) rfl (fun ls hl => ?_)
              refine lv_aload_n hx hb dX4_disk_121 rfl (lv_at hl 1 rfl) ?_
              refine lv_iload hx hb dX4_disk_122 (lv_at hl 0 rfl) ?_
              refine lv_if_ne (tgt := 131) hx hb dX4_disk_124 (by decide) (fun c124 => ?_) (fun c124 => ?_)
              ·
                refine lv_iconst (v := nI 0) hx hb dX4_disk_131 (by decide) ?_
                exact J132 (nI 0) s2 _ _ hP hD hS ls (lv_sub hl [1, 2, 3, 4] rfl) (pu_thz e2) (by first | exact Or.inl rfl | exact Or.inr ⟨rfl, Or.inl ⟨c6, pu_inn (by decide) c16, pu_inn (by decide) c26⟩⟩ | exact Or.inr ⟨rfl, Or.inr (Or.inl ⟨c39, pu_inn (by decide) c48, pu_inn (by decide) c58⟩)⟩ | exact Or.inr ⟨rfl, Or.inr (Or.inr (Or.inl ⟨c71, pu_inn (by decide) c81, pu_inn (by decide) c90⟩))⟩ | exact Or.inr ⟨rfl, Or.inr (Or.inr (Or.inr ⟨c103, c107, c111⟩))⟩ | exact absurd nI_0 c124) (by simp only [m_disk, e2, if_neg c6, if_neg c39, if_neg c71, if_pos c103, if_pos c107, if_neg c111, if_neg c124])
              ·
                refine lv_iconst (v := nI 1) hx hb dX4_disk_127 (by decide) ?_
                refine lv_goto (tgt := 132) hx hb dX4_disk_128 (by decide) ?_
                exact J132 (nI 1) s2 _ _ hP hD hS ls (lv_sub hl [1, 2, 3, 4] rfl) (pu_thz e2) (by first | exact Or.inl rfl | exact Or.inr ⟨rfl, Or.inl ⟨c6, pu_inn (by decide) c16, pu_inn (by decide) c26⟩⟩ | exact Or.inr ⟨rfl, Or.inr (Or.inl ⟨c39, pu_inn (by decide) c48, pu_inn (by decide) c58⟩)⟩ | exact Or.inr ⟨rfl, Or.inr (Or.inr (Or.inl ⟨c71, pu_inn (by decide) c81, pu_inn (by decide) c90⟩))⟩ | exact Or.inr ⟨rfl, Or.inr (Or.inr (Or.inr ⟨c103, c107, c111⟩))⟩ | exact absurd nI_0 c124) (by simp only [m_disk, e2, if_neg c6, if_neg c39, if_neg c71, if_pos c103, if_pos c107, if_neg c111, if_pos c124])
            ·
              refine lv_iconst (v := nI 1) hx hb dX4_disk_114 (by decide) ?_
              refine lv_goto (tgt := 119) hx hb dX4_disk_115 (by decide) ?_
              refine lv_istore (lv' := [(4, .int (nI 1)), (0, .ref (ad 0)), (1, .int a), (2, .int b), (3, .int d)]) hx hb dX4_disk_119 hl (by decide) rfl (fun ls hl => ?_)
              refine lv_aload_n hx hb dX4_disk_121 rfl (lv_at hl 1 rfl) ?_
              refine lv_iload hx hb dX4_disk_122 (lv_at hl 0 rfl) ?_
              refine lv_if_ne (tgt := 131) hx hb dX4_disk_124 (by decide) (fun c124 => ?_) (fun c124 => ?_)
              ·
                refine lv_iconst (v := nI 0) hx hb dX4_disk_131 (by decide) ?_
                exact J132 (nI 0) s2 _ _ hP hD hS ls (lv_sub hl [1, 2, 3, 4] rfl) (pu_thz e2) (by first | exact Or.inl rfl | exact Or.inr ⟨rfl, Or.inl ⟨c6, pu_inn (by decide) c16, pu_inn (by decide) c26⟩⟩ | exact Or.inr ⟨rfl, Or.inr (Or.inl ⟨c39, pu_inn (by decide) c48, pu_inn (by decide) c58⟩)⟩ | exact Or.inr ⟨rfl, Or.inr (Or.inr (Or.inl ⟨c71, pu_inn (by decide) c81, pu_inn (by decide) c90⟩))⟩ | exact Or.inr ⟨rfl, Or.inr (Or.inr (Or.inr ⟨c103, c107, c111⟩))⟩ | exact absurd nI_0 c124) (by simp only [m_disk, e2, if_neg c6, if_neg c39, if_neg c71, if_pos c103, if_pos c107, if_pos c111, if_neg c124])
              ·
                refine lv_iconst (v := nI 1) hx hb dX4_disk_127 (by decide) ?_
                refine lv_goto (tgt := 132) hx hb dX4_disk_128 (by decide) ?_
                exact J132 (nI 1) s2 _ _ hP hD hS ls (lv_sub hl [1, 2, 3, 4] rfl) (pu_thz e2) (by first | exact Or.inl rfl | exact Or.inr ⟨rfl, Or.inl ⟨c6, pu_inn (by decide) c16, pu_inn (by decide) c26⟩⟩ | exact Or.inr ⟨rfl, Or.inr (Or.inl ⟨c39, pu_inn (by decide) c48, pu_inn (by decide) c58⟩)⟩ | exact Or.inr ⟨rfl, Or.inr (Or.inr (Or.inl ⟨c71, pu_inn (by decide) c81, pu_inn (by decide) c90⟩))⟩ | exact Or.inr ⟨rfl, Or.inr (Or.inr (Or.inr ⟨c103, c107, c111⟩))⟩ | exact absurd nI_0 c124) (by simp only [m_disk, e2, if_neg c6, if_neg c39, if_neg c71, if_pos c103, if_pos c107, if_pos c111, if_pos c124])
      ·
        refine lv_iload_n hx hb dX4_disk_74 rfl (lv_at hl 2 rfl) ?_
        refine lv_iconst (v := nI 0) hx hb dX4_disk_75 (by decide) ?_
        refine lv_bipush (v := nI 11) hx hb dX4_disk_76 (by decide) ?_
        refine me_calls (As := [.int b, .int (nI 0), .int (nI 11)]) (rest := []) ⟨hx, hb, hml, hown, hts⟩ (c_X4_in l b (nI 0) (nI 11) ) (cwS 3 hts gX4_disk_X4_in rfl rfl rfl (by decide +kernel) ⟨Nat.le_of_ble_eq_true rfl, Nat.le_of_ble_eq_true rfl⟩) rfl hl.1 rfl (Nat.le_of_ble_eq_true rfl) dX4_disk_78 ⟨Nat.zero_le _, Nat.zero_le _⟩ ?_
        refine lv_if_eq (tgt := 97) hx hb dX4_disk_81 (by decide) (fun c81 => ?_) (fun c81 => ?_)
        ·
          refine lv_iconst (v := nI 0) hx hb dX4_disk_97 (by decide) ?_
          refine lv_goto (tgt := 119) hx hb dX4_disk_98 (by decide) ?_
          refine lv_istore (lv' := [(4, .int (nI 0)), (0, .ref (ad 0)), (1, .int a), (2, .int b), (3, .int d)]) hx hb dX4_disk_119 hl (by decide) rfl (fun ls hl => ?_)
          refine lv_aload_n hx hb dX4_disk_121 rfl (lv_at hl 1 rfl) ?_
          refine lv_iload hx hb dX4_disk_122 (lv_at hl 0 rfl) ?_
          refine lv_if_ne (tgt := 131) hx hb dX4_disk_124 (by decide) (fun c124 => ?_) (fun c124 => ?_)
          ·
            refine lv_iconst (v := nI 0) hx hb dX4_disk_131 (by decide) ?_
            exact J132 (nI 0) s2 _ _ hP hD hS ls (lv_sub hl [1, 2, 3, 4] rfl) (pu_thz e2) (by first | exact Or.inl rfl | exact Or.inr ⟨rfl, Or.inl ⟨c6, pu_inn (by decide) c16, pu_inn (by decide) c26⟩⟩ | exact Or.inr ⟨rfl, Or.inr (Or.inl ⟨c39, pu_inn (by decide) c48, pu_inn (by decide) c58⟩)⟩ | exact Or.inr ⟨rfl, Or.inr (Or.inr (Or.inl ⟨c71, pu_inn (by decide) c81, pu_inn (by decide) c90⟩))⟩ | exact Or.inr ⟨rfl, Or.inr (Or.inr (Or.inr ⟨c103, c107, c111⟩))⟩ | exact absurd nI_0 c124) (by simp only [m_disk, e2, if_neg c6, if_neg c39, if_pos c71, if_pos c81, if_neg c124])
          ·
            refine lv_iconst (v := nI 1) hx hb dX4_disk_127 (by decide) ?_
            refine lv_goto (tgt := 132) hx hb dX4_disk_128 (by decide) ?_
            exact J132 (nI 1) s2 _ _ hP hD hS ls (lv_sub hl [1, 2, 3, 4] rfl) (pu_thz e2) (by first | exact Or.inl rfl | exact Or.inr ⟨rfl, Or.inl ⟨c6, pu_inn (by decide) c16, pu_inn (by decide) c26⟩⟩ | exact Or.inr ⟨rfl, Or.inr (Or.inl ⟨c39, pu_inn (by decide) c48, pu_inn (by decide) c58⟩)⟩ | exact Or.inr ⟨rfl, Or.inr (Or.inr (Or.inl ⟨c71, pu_inn (by decide) c81, pu_inn (by decide) c90⟩))⟩ | exact Or.inr ⟨rfl, Or.inr (Or.inr (Or.inr ⟨c103, c107, c111⟩))⟩ | exact absurd nI_0 c124) (by simp only [m_disk, e2, if_neg c6, if_neg c39, if_pos c71, if_pos c81, if_pos c124])
        ·
          refine lv_iload_n hx hb dX4_disk_84 rfl (lv_at hl 3 rfl) ?_
          refine lv_iconst (v := nI 0) hx hb dX4_disk_85 (by decide) ?_
          refine lv_iconst (v := nI 3) hx hb dX4_disk_86 (by decide) ?_
          refine me_calls (As := [.int d, .int (nI 0), .int (nI 3)]) (rest := []) ⟨hx, hb, hml, hown, hts⟩ (c_X4_in l d (nI 0) (nI 3) ) (cwS 3 hts gX4_disk_X4_in rfl rfl rfl (by decide +kernel) ⟨Nat.le_of_ble_eq_true rfl, Nat.le_of_ble_eq_true rfl⟩) rfl hl.1 rfl (Nat.le_of_ble_eq_true rfl) dX4_disk_87 ⟨Nat.zero_le _, Nat.zero_le _⟩ ?_
          refine lv_if_eq (tgt := 97) hx hb dX4_disk_90 (by decide) (fun c90 => ?_) (fun c90 => ?_)
          ·
            refine lv_iconst (v := nI 0) hx hb dX4_disk_97 (by decide) ?_
            refine lv_goto (tgt := 119) hx hb dX4_disk_98 (by decide) ?_
            refine lv_istore (lv' := [(4, .int (nI 0)), (0, .ref (ad 0)), (1, .int a), (2, .int b), (3, .int d)]) hx hb dX4_disk_119 hl (by decide) rfl (fun ls hl => ?_)
            refine lv_aload_n hx hb dX4_disk_121 rfl (lv_at hl 1 rfl) ?_
            refine lv_iload hx hb dX4_disk_122 (lv_at hl 0 rfl) ?_
            refine lv_if_ne (tgt := 131) hx hb dX4_disk_124 (by decide) (fun c124 => ?_) (fun c124 => ?_)
            ·
              refine lv_iconst (v := nI 0) hx hb dX4_disk_131 (by decide) ?_
              exact J132 (nI 0) s2 _ _ hP hD hS ls (lv_sub hl [1, 2, 3, 4] rfl) (pu_thz e2) (by first | exact Or.inl rfl | exact Or.inr ⟨rfl, Or.inl ⟨c6, pu_inn (by decide) c16, pu_inn (by decide) c26⟩⟩ | exact Or.inr ⟨rfl, Or.inr (Or.inl ⟨c39, pu_inn (by decide) c48, pu_inn (by decide) c58⟩)⟩ | exact Or.inr ⟨rfl, Or.inr (Or.inr (Or.inl ⟨c71, pu_inn (by decide) c81, pu_inn (by decide) c90⟩))⟩ | exact Or.inr ⟨rfl, Or.inr (Or.inr (Or.inr ⟨c103, c107, c111⟩))⟩ | exact absurd nI_0 c124) (by simp only [m_disk, e2, if_neg c6, if_neg c39, if_pos c71, if_neg c81, if_pos c90, if_neg c124])
            ·
              refine lv_iconst (v := nI 1) hx hb dX4_disk_127 (by decide) ?_
              refine lv_goto (tgt := 132) hx hb dX4_disk_128 (by decide) ?_
              exact J132 (nI 1) s2 _ _ hP hD hS ls (lv_sub hl [1, 2, 3, 4] rfl) (pu_thz e2) (by first | exact Or.inl rfl | exact Or.inr ⟨rfl, Or.inl ⟨c6, pu_inn (by decide) c16, pu_inn (by decide) c26⟩⟩ | exact Or.inr ⟨rfl, Or.inr (Or.inl ⟨c39, pu_inn (by decide) c48, pu_inn (by decide) c58⟩)⟩ | exact Or.inr ⟨rfl, Or.inr (Or.inr (Or.inl ⟨c71, pu_inn (by decide) c81, pu_inn (by decide) c90⟩))⟩ | exact Or.inr ⟨rfl, Or.inr (Or.inr (Or.inr ⟨c103, c107, c111⟩))⟩ | exact absurd nI_0 c124) (by simp only [m_disk, e2, if_neg c6, if_neg c39, if_pos c71, if_neg c81, if_pos c90, if_pos c124])
          ·
            refine lv_iconst (v := nI 1) hx hb dX4_disk_93 (by decide) ?_
            refine lv_goto (tgt := 119) hx hb dX4_disk_94 (by decide) ?_
            refine lv_istore (lv' := [(4, .int (nI 1)), (0, .ref (ad 0)), (1, .int a), (2, .int b), (3, .int d)]) hx hb dX4_disk_119 hl (by decide) rfl (fun ls hl => ?_)
            refine lv_aload_n hx hb dX4_disk_121 rfl (lv_at hl 1 rfl) ?_
            refine lv_iload hx hb dX4_disk_122 (lv_at hl 0 rfl) ?_
            refine lv_if_ne (tgt := 131) hx hb dX4_disk_124 (by decide) (fun c124 => ?_) (fun c124 => ?_)
            ·
              refine lv_iconst (v := nI 0) hx hb dX4_disk_131 (by decide) ?_
              exact J132 (nI 0) s2 _ _ hP hD hS ls (lv_sub hl [1, 2, 3, 4] rfl) (pu_thz e2) (by first | exact Or.inl rfl | exact Or.inr ⟨rfl, Or.inl ⟨c6, pu_inn (by decide) c16, pu_inn (by decide) c26⟩⟩ | exact Or.inr ⟨rfl, Or.inr (Or.inl ⟨c39, pu_inn (by decide) c48, pu_inn (by decide) c58⟩)⟩ | exact Or.inr ⟨rfl, Or.inr (Or.inr (Or.inl ⟨c71, pu_inn (by decide) c81, pu_inn (by decide) c90⟩))⟩ | exact Or.inr ⟨rfl, Or.inr (Or.inr (Or.inr ⟨c103, c107, c111⟩))⟩ | exact absurd nI_0 c124) (by simp only [m_disk, e2, if_neg c6, if_neg c39, if_pos c71, if_neg c81, if_neg c90, if_neg c124])
            ·
              refine lv_iconst (v := nI 1) hx hb dX4_disk_127 (by decide) ?_
              refine lv_goto (tgt := 132) hx hb dX4_disk_128 (by decide) ?_
              exact J132 (nI 1) s2 _ _ hP hD hS ls (lv_sub hl [1, 2, 3, 4] rfl) (pu_thz e2) (by first | exact Or.inl rfl | exact Or.inr ⟨rfl, Or.inl ⟨c6, pu_inn (by decide) c16, pu_inn (by decide) c26⟩⟩ | exact Or.inr ⟨rfl, Or.inr (Or.inl ⟨c39, pu_inn (by decide) c48, pu_inn (by decide) c58⟩)⟩ | exact Or.inr ⟨rfl, Or.inr (Or.inr (Or.inl ⟨c71, pu_inn (by decide) c81, pu_inn (by decide) c90⟩))⟩ | exact Or.inr ⟨rfl, Or.inr (Or.inr (Or.inr ⟨c103, c107, c111⟩))⟩ | exact absurd nI_0 c124) (by simp only [m_disk, e2, if_neg c6, if_neg c39, if_pos c71, if_neg c81, if_neg c90, if_pos c124])
    ·
      refine lv_iload_n hx hb dX4_disk_42 rfl (lv_at hl 2 rfl) ?_
      refine lv_iconst (v := nI 0) hx hb dX4_disk_43 (by decide) ?_
      refine lv_iconst (v := nI 3) hx hb dX4_disk_44 (by decide) ?_
      refine me_calls (As := [.int b, .int (nI 0), .int (nI 3)]) (rest := []) ⟨hx, hb, hml, hown, hts⟩ (c_X4_in l b (nI 0) (nI 3) ) (cwS 3 hts gX4_disk_X4_in rfl rfl rfl (by decide +kernel) ⟨Nat.le_of_ble_eq_true rfl, Nat.le_of_ble_eq_true rfl⟩) rfl hl.1 rfl (Nat.le_of_ble_eq_true rfl) dX4_disk_45 ⟨Nat.zero_le _, Nat.zero_le _⟩ ?_
      refine lv_if_eq (tgt := 65) hx hb dX4_disk_48 (by decide) (fun c48 => ?_) (fun c48 => ?_)
      ·
        refine lv_iconst (v := nI 0) hx hb dX4_disk_65 (by decide) ?_
        refine lv_goto (tgt := 119) hx hb dX4_disk_66 (by decide) ?_
        refine lv_istore (lv' := [(4, .int (nI 0)), (0, .ref (ad 0)), (1, .int a), (2, .int b), (3, .int d)]) hx hb dX4_disk_119 hl (by decide) rfl (fun ls hl => ?_)
        refine lv_aload_n hx hb dX4_disk_121 rfl (lv_at hl 1 rfl) ?_
        refine lv_iload hx hb dX4_disk_122 (lv_at hl 0 rfl) ?_
        refine lv_if_ne (tgt := 131) hx hb dX4_disk_124 (by decide) (fun c124 => ?_) (fun c124 => ?_)
        ·
          refine lv_iconst (v := nI 0) hx hb dX4_disk_131 (by decide) ?_
          exact J132 (nI 0) s2 _ _ hP hD hS ls (lv_sub hl [1, 2, 3, 4] rfl) (pu_thz e2) (by first | exact Or.inl rfl | exact Or.inr ⟨rfl, Or.inl ⟨c6, pu_inn (by decide) c16, pu_inn (by decide) c26⟩⟩ | exact Or.inr ⟨rfl, Or.inr (Or.inl ⟨c39, pu_inn (by decide) c48, pu_inn (by decide) c58⟩)⟩ | exact Or.inr ⟨rfl, Or.inr (Or.inr (Or.inl ⟨c71, pu_inn (by decide) c81, pu_inn (by decide) c90⟩))⟩ | exact Or.inr ⟨rfl, Or.inr (Or.inr (Or.inr ⟨c103, c107, c111⟩))⟩ | exact absurd nI_0 c124) (by simp only [m_disk, e2, if_neg c6, if_pos c39, if_pos c48, if_neg c124])
        ·
          refine lv_iconst (v := nI 1) hx hb dX4_disk_127 (by decide) ?_
          refine lv_goto (tgt := 132) hx hb dX4_disk_128 (by decide) ?_
          exact J132 (nI 1) s2 _ _ hP hD hS ls (lv_sub hl [1, 2, 3, 4] rfl) (pu_thz e2) (by first | exact Or.inl rfl | exact Or.inr ⟨rfl, Or.inl ⟨c6, pu_inn (by decide) c16, pu_inn (by decide) c26⟩⟩ | exact Or.inr ⟨rfl, Or.inr (Or.inl ⟨c39, pu_inn (by decide) c48, pu_inn (by decide) c58⟩)⟩ | exact Or.inr ⟨rfl, Or.inr (Or.inr (Or.inl ⟨c71, pu_inn (by decide) c81, pu_inn (by decide) c90⟩))⟩ | exact Or.inr ⟨rfl, Or.inr (Or.inr (Or.inr ⟨c103, c107, c111⟩))⟩ | exact absurd nI_0 c124) (by simp only [m_disk, e2, if_neg c6, if_pos c39, if_pos c48, if_pos c124])
      ·
        refine lv_iload_n hx hb dX4_disk_51 rfl (lv_at hl 3 rfl) ?_
        refine lv_iconst (v := nI 0) hx hb dX4_disk_52 (by decide) ?_
        refine lv_bipush (v := nI 23) hx hb dX4_disk_53 (by decide) ?_
        refine me_calls (As := [.int d, .int (nI 0), .int (nI 23)]) (rest := []) ⟨hx, hb, hml, hown, hts⟩ (c_X4_in l d (nI 0) (nI 23) ) (cwS 3 hts gX4_disk_X4_in rfl rfl rfl (by decide +kernel) ⟨Nat.le_of_ble_eq_true rfl, Nat.le_of_ble_eq_true rfl⟩) rfl hl.1 rfl (Nat.le_of_ble_eq_true rfl) dX4_disk_55 ⟨Nat.zero_le _, Nat.zero_le _⟩ ?_
        refine lv_if_eq (tgt := 65) hx hb dX4_disk_58 (by decide) (fun c58 => ?_) (fun c58 => ?_)
        ·
          refine lv_iconst (v := nI 0) hx hb dX4_disk_65 (by decide) ?_
          refine lv_goto (tgt := 119) hx hb dX4_disk_66 (by decide) ?_
          refine lv_istore (lv' := [(4, .int (nI 0)), (0, .ref (ad 0)), (1, .int a), (2, .int b), (3, .int d)]) hx hb dX4_disk_119 hl (by decide) rfl (fun ls hl => ?_)
          refine lv_aload_n hx hb dX4_disk_121 rfl (lv_at hl 1 rfl) ?_
          refine lv_iload hx hb dX4_disk_122 (lv_at hl 0 rfl) ?_
          refine lv_if_ne (tgt := 131) hx hb dX4_disk_124 (by decide) (fun c124 => ?_) (fun c124 => ?_)
          ·
            refine lv_iconst (v := nI 0) hx hb dX4_disk_131 (by decide) ?_
            exact J132 (nI 0) s2 _ _ hP hD hS ls (lv_sub hl [1, 2, 3, 4] rfl) (pu_thz e2) (by first | exact Or.inl rfl | exact Or.inr ⟨rfl, Or.inl ⟨c6, pu_inn (by decide) c16, pu_inn (by decide) c26⟩⟩ | exact Or.inr ⟨rfl, Or.inr (Or.inl ⟨c39, pu_inn (by decide) c48, pu_inn (by decide) c58⟩)⟩ | exact Or.inr ⟨rfl, Or.inr (Or.inr (Or.inl ⟨c71, pu_inn (by decide) c81, pu_inn (by decide) c90⟩))⟩ | exact Or.inr ⟨rfl, Or.inr (Or.inr (Or.inr ⟨c103, c107, c111⟩))⟩ | exact absurd nI_0 c124) (by simp only [m_disk, e2, if_neg c6, if_pos c39, if_neg c48, if_pos c58, if_neg c124])
          ·
            refine lv_iconst (v := nI 1) hx hb dX4_disk_127 (by decide) ?_
            refine lv_goto (tgt := 132) hx hb dX4_disk_128 (by decide) ?_
            exact J132 (nI 1) s2 _ _ hP hD hS ls (lv_sub hl [1, 2, 3, 4] rfl) (pu_thz e2) (by first | exact Or.inl rfl | exact Or.inr ⟨rfl, Or.inl ⟨c6, pu_inn (by decide) c16, pu_inn (by decide) c26⟩⟩ | exact Or.inr ⟨rfl, Or.inr (Or.inl ⟨c39, pu_inn (by decide) c48, pu_inn (by decide) c58⟩)⟩ | exact Or.inr ⟨rfl, Or.inr (Or.inr (Or.inl ⟨c71, pu_inn (by decide) c81, pu_inn (by decide) c90⟩))⟩ | exact Or.inr ⟨rfl, Or.inr (Or.inr (Or.inr ⟨c103, c107, c111⟩))⟩ | exact absurd nI_0 c124) (by simp only [m_disk, e2, if_neg c6, if_pos c39, if_neg c48, if_pos c58, if_pos c124])
        ·
          refine lv_iconst (v := nI 1) hx hb dX4_disk_61 (by decide) ?_
          refine lv_goto (tgt := 119) hx hb dX4_disk_62 (by decide) ?_
          refine lv_istore (lv' := [(4, .int (nI 1)), (0, .ref (ad 0)), (1, .int a), (2, .int b), (3, .int d)]) hx hb dX4_disk_119 hl (by decide) rfl (fun ls hl => ?_)
          refine lv_aload_n hx hb dX4_disk_121 rfl (lv_at hl 1 rfl) ?_
          refine lv_iload hx hb dX4_disk_122 (lv_at hl 0 rfl) ?_
          refine lv_if_ne (tgt := 131) hx hb dX4_disk_124 (by decide) (fun c124 => ?_) (fun c124 => ?_)
          ·
            refine lv_iconst (v := nI 0) hx hb dX4_disk_131 (by decide) ?_
            exact J132 (nI 0) s2 _ _ hP hD hS ls (lv_sub hl [1, 2, 3, 4] rfl) (pu_thz e2) (by first | exact Or.inl rfl | exact Or.inr ⟨rfl, Or.inl ⟨c6, pu_inn (by decide) c16, pu_inn (by decide) c26⟩⟩ | exact Or.inr ⟨rfl, Or.inr (Or.inl ⟨c39, pu_inn (by decide) c48, pu_inn (by decide) c58⟩)⟩ | exact Or.inr ⟨rfl, Or.inr (Or.inr (Or.inl ⟨c71, pu_inn (by decide) c81, pu_inn (by decide) c90⟩))⟩ | exact Or.inr ⟨rfl, Or.inr (Or.inr (Or.inr ⟨c103, c107, c111⟩))⟩ | exact absurd nI_0 c124) (by simp only [m_disk, e2, if_neg c6, if_pos c39, if_neg c48, if_neg c58, if_neg c124])
          ·
            refine lv_iconst (v := nI 1) hx hb dX4_disk_127 (by decide) ?_
            refine lv_goto (tgt := 132) hx hb dX4_disk_128 (by decide) ?_
            exact J132 (nI 1) s2 _ _ hP hD hS ls (lv_sub hl [1, 2, 3, 4] rfl) (pu_thz e2) (by first | exact Or.inl rfl | exact Or.inr ⟨rfl, Or.inl ⟨c6, pu_inn (by decide) c16, pu_inn (by decide) c26⟩⟩ | exact Or.inr ⟨rfl, Or.inr (Or.inl ⟨c39, pu_inn (by decide) c48, pu_inn (by decide) c58⟩)⟩ | exact Or.inr ⟨rfl, Or.inr (Or.inr (Or.inl ⟨c71, pu_inn (by decide) c81, pu_inn (by decide) c90⟩))⟩ | exact Or.inr ⟨rfl, Or.inr (Or.inr (Or.inr ⟨c103, c107, c111⟩))⟩ | exact absurd nI_0 c124) (by simp only [m_disk, e2, if_neg c6, if_pos c39, if_neg c48, if_neg c58, if_pos c124])
  ·
    refine lv_iload_n hx hb dX4_disk_9 rfl (lv_at hl 2 rfl) ?_
    refine lv_iconst (v := nI 0) hx hb dX4_disk_10 (by decide) ?_
    refine lv_bipush (v := nI 11) hx hb dX4_disk_11 (by decide) ?_
    refine me_calls (As := [.int b, .int (nI 0), .int (nI 11)]) (rest := []) ⟨hx, hb, hml, hown, hts⟩ (c_X4_in l b (nI 0) (nI 11) ) (cwS 3 hts gX4_disk_X4_in rfl rfl rfl (by decide +kernel) ⟨Nat.le_of_ble_eq_true rfl, Nat.le_of_ble_eq_true rfl⟩) rfl hl.1 rfl (Nat.le_of_ble_eq_true rfl) dX4_disk_13 ⟨Nat.zero_le _, Nat.zero_le _⟩ ?_
    refine lv_if_eq (tgt := 33) hx hb dX4_disk_16 (by decide) (fun c16 => ?_) (fun c16 => ?_)
    ·
      refine lv_iconst (v := nI 0) hx hb dX4_disk_33 (by decide) ?_
      refine lv_goto (tgt := 119) hx hb dX4_disk_34 (by decide) ?_
      refine lv_istore (lv' := [(4, .int (nI 0)), (0, .ref (ad 0)), (1, .int a), (2, .int b), (3, .int d)]) hx hb dX4_disk_119 hl (by decide) rfl (fun ls hl => ?_)
      refine lv_aload_n hx hb dX4_disk_121 rfl (lv_at hl 1 rfl) ?_
      refine lv_iload hx hb dX4_disk_122 (lv_at hl 0 rfl) ?_
      refine lv_if_ne (tgt := 131) hx hb dX4_disk_124 (by decide) (fun c124 => ?_) (fun c124 => ?_)
      ·
        refine lv_iconst (v := nI 0) hx hb dX4_disk_131 (by decide) ?_
        exact J132 (nI 0) s2 _ _ hP hD hS ls (lv_sub hl [1, 2, 3, 4] rfl) (pu_thz e2) (by first | exact Or.inl rfl | exact Or.inr ⟨rfl, Or.inl ⟨c6, pu_inn (by decide) c16, pu_inn (by decide) c26⟩⟩ | exact Or.inr ⟨rfl, Or.inr (Or.inl ⟨c39, pu_inn (by decide) c48, pu_inn (by decide) c58⟩)⟩ | exact Or.inr ⟨rfl, Or.inr (Or.inr (Or.inl ⟨c71, pu_inn (by decide) c81, pu_inn (by decide) c90⟩))⟩ | exact Or.inr ⟨rfl, Or.inr (Or.inr (Or.inr ⟨c103, c107, c111⟩))⟩ | exact absurd nI_0 c124) (by simp only [m_disk, e2, if_pos c6, if_pos c16, if_neg c124])
      ·
        refine lv_iconst (v := nI 1) hx hb dX4_disk_127 (by decide) ?_
        refine lv_goto (tgt := 132) hx hb dX4_disk_128 (by decide) ?_
        exact J132 (nI 1) s2 _ _ hP hD hS ls (lv_sub hl [1, 2, 3, 4] rfl) (pu_thz e2) (by first | exact Or.inl rfl | exact Or.inr ⟨rfl, Or.inl ⟨c6, pu_inn (by decide) c16, pu_inn (by decide) c26⟩⟩ | exact Or.inr ⟨rfl, Or.inr (Or.inl ⟨c39, pu_inn (by decide) c48, pu_inn (by decide) c58⟩)⟩ | exact Or.inr ⟨rfl, Or.inr (Or.inr (Or.inl ⟨c71, pu_inn (by decide) c81, pu_inn (by decide) c90⟩))⟩ | exact Or.inr ⟨rfl, Or.inr (Or.inr (Or.inr ⟨c103, c107, c111⟩))⟩ | exact absurd nI_0 c124) (by simp only [m_disk, e2, if_pos c6, if_pos c16, if_pos c124])
    ·
      refine lv_iload_n hx hb dX4_disk_19 rfl (lv_at hl 3 rfl) ?_
      refine lv_iconst (v := nI 0) hx hb dX4_disk_20 (by decide) ?_
      refine lv_bipush (v := nI 19) hx hb dX4_disk_21 (by decide) ?_
      refine me_calls (As := [.int d, .int (nI 0), .int (nI 19)]) (rest := []) ⟨hx, hb, hml, hown, hts⟩ (c_X4_in l d (nI 0) (nI 19) ) (cwS 3 hts gX4_disk_X4_in rfl rfl rfl (by decide +kernel) ⟨Nat.le_of_ble_eq_true rfl, Nat.le_of_ble_eq_true rfl⟩) rfl hl.1 rfl (Nat.le_of_ble_eq_true rfl) dX4_disk_23 ⟨Nat.zero_le _, Nat.zero_le _⟩ ?_
      refine lv_if_eq (tgt := 33) hx hb dX4_disk_26 (by decide) (fun c26 => ?_) (fun c26 => ?_)
      ·
        refine lv_iconst (v := nI 0) hx hb dX4_disk_33 (by decide) ?_
        refine lv_goto (tgt := 119) hx hb dX4_disk_34 (by decide) ?_
        refine lv_istore (lv' := [(4, .int (nI 0)), (0, .ref (ad 0)), (1, .int a), (2, .int b), (3, .int d)]) hx hb dX4_disk_119 hl (by decide) rfl (fun ls hl => ?_)
        refine lv_aload_n hx hb dX4_disk_121 rfl (lv_at hl 1 rfl) ?_
        refine lv_iload hx hb dX4_disk_122 (lv_at hl 0 rfl) ?_
        refine lv_if_ne (tgt := 131) hx hb dX4_disk_124 (by decide) (fun c124 => ?_) (fun c124 => ?_)
        ·
          refine lv_iconst (v := nI 0) hx hb dX4_disk_131 (by decide) ?_
          exact J132 (nI 0) s2 _ _ hP hD hS ls (lv_sub hl [1, 2, 3, 4] rfl) (pu_thz e2) (by first | exact Or.inl rfl | exact Or.inr ⟨rfl, Or.inl ⟨c6, pu_inn (by decide) c16, pu_inn (by decide) c26⟩⟩ | exact Or.inr ⟨rfl, Or.inr (Or.inl ⟨c39, pu_inn (by decide) c48, pu_inn (by decide) c58⟩)⟩ | exact Or.inr ⟨rfl, Or.inr (Or.inr (Or.inl ⟨c71, pu_inn (by decide) c81, pu_inn (by decide) c90⟩))⟩ | exact Or.inr ⟨rfl, Or.inr (Or.inr (Or.inr ⟨c103, c107, c111⟩))⟩ | exact absurd nI_0 c124) (by simp only [m_disk, e2, if_pos c6, if_neg c16, if_pos c26, if_neg c124])
        ·
          refine lv_iconst (v := nI 1) hx hb dX4_disk_127 (by decide) ?_
          refine lv_goto (tgt := 132) hx hb dX4_disk_128 (by decide) ?_
          exact J132 (nI 1) s2 _ _ hP hD hS ls (lv_sub hl [1, 2, 3, 4] rfl) (pu_thz e2) (by first | exact Or.inl rfl | exact Or.inr ⟨rfl, Or.inl ⟨c6, pu_inn (by decide) c16, pu_inn (by decide) c26⟩⟩ | exact Or.inr ⟨rfl, Or.inr (Or.inl ⟨c39, pu_inn (by decide) c48, pu_inn (by decide) c58⟩)⟩ | exact Or.inr ⟨rfl, Or.inr (Or.inr (Or.inl ⟨c71, pu_inn (by decide) c81, pu_inn (by decide) c90⟩))⟩ | exact Or.inr ⟨rfl, Or.inr (Or.inr (Or.inr ⟨c103, c107, c111⟩))⟩ | exact absurd nI_0 c124) (by simp only [m_disk, e2, if_pos c6, if_neg c16, if_pos c26, if_pos c124])
      ·
        refine lv_iconst (v := nI 1) hx hb dX4_disk_29 (by decide) ?_
        refine lv_goto (tgt := 119) hx hb dX4_disk_30 (by decide) ?_
        refine lv_istore (lv' := [(4, .int (nI 1)), (0, .ref (ad 0)), (1, .int a), (2, .int b), (3, .int d)]) hx hb dX4_disk_119 hl (by decide) rfl (fun ls hl => ?_)
        refine lv_aload_n hx hb dX4_disk_121 rfl (lv_at hl 1 rfl) ?_
        refine lv_iload hx hb dX4_disk_122 (lv_at hl 0 rfl) ?_
        refine lv_if_ne (tgt := 131) hx hb dX4_disk_124 (by decide) (fun c124 => ?_) (fun c124 => ?_)
        ·
          refine lv_iconst (v := nI 0) hx hb dX4_disk_131 (by decide) ?_
          exact J132 (nI 0) s2 _ _ hP hD hS ls (lv_sub hl [1, 2, 3, 4] rfl) (pu_thz e2) (by first | exact Or.inl rfl | exact Or.inr ⟨rfl, Or.inl ⟨c6, pu_inn (by decide) c16, pu_inn (by decide) c26⟩⟩ | exact Or.inr ⟨rfl, Or.inr (Or.inl ⟨c39, pu_inn (by decide) c48, pu_inn (by decide) c58⟩)⟩ | exact Or.inr ⟨rfl, Or.inr (Or.inr (Or.inl ⟨c71, pu_inn (by decide) c81, pu_inn (by decide) c90⟩))⟩ | exact Or.inr ⟨rfl, Or.inr (Or.inr (Or.inr ⟨c103, c107, c111⟩))⟩ | exact absurd nI_0 c124) (by simp only [m_disk, e2, if_pos c6, if_neg c16, if_neg c26, if_neg c124])
        ·
          refine lv_iconst (v := nI 1) hx hb dX4_disk_127 (by decide) ?_
          refine lv_goto (tgt := 132) hx hb dX4_disk_128 (by decide) ?_
          exact J132 (nI 1) s2 _ _ hP hD hS ls (lv_sub hl [1, 2, 3, 4] rfl) (pu_thz e2) (by first | exact Or.inl rfl | exact Or.inr ⟨rfl, Or.inl ⟨c6, pu_inn (by decide) c16, pu_inn (by decide) c26⟩⟩ | exact Or.inr ⟨rfl, Or.inr (Or.inl ⟨c39, pu_inn (by decide) c48, pu_inn (by decide) c58⟩)⟩ | exact Or.inr ⟨rfl, Or.inr (Or.inr (Or.inl ⟨c71, pu_inn (by decide) c81, pu_inn (by decide) c90⟩))⟩ | exact Or.inr ⟨rfl, Or.inr (Or.inr (Or.inr ⟨c103, c107, c111⟩))⟩ | exact absurd nI_0 c124) (by simp only [m_disk, e2, if_pos c6, if_neg c16, if_neg c26, if_pos c124])
