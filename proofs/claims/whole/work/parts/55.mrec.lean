def m_rec_42 : Nat → Nat → me_M → Int32 × me_M
  | 0, i, s => (0, s)
  | n + 1, i, s => if (s 6 (i % 12)) = nI i then (let q67 := m_br ((s 7 (i % 12)).toNatClampNeg) s; let r67 := q67.1; let s67 := q67.2; if r67 = (-1) then (((-3), s67)) else (if nI i ≤ (s67 11 r67.toNatClampNeg) then (m_rec_42 n  (i + 1) s67) else (let s110 := me_st s67 14 (16 * r67.toNatClampNeg + ((s67 8 (i % 12)).toNatClampNeg)) (s67 9 (i % 12)); let s117 := me_st s110 11 r67.toNatClampNeg (nI i); let s124 := me_st s117 12 r67.toNatClampNeg (nI 1); m_rec_42 n  (i + 1) s124))) else (let s133 := me_st s 0 17 (nI i); let s138 := me_st s133 0 25 (nI 0); ((nI i) - (nI 1), s138))
def m_rec_18  (z : Int32) (s : me_M) : Int32 × me_M := let q19 := m_ref z (nI 1) s; let r19 := q19.1; let s19 := q19.2; if r19 = 0 then (let q28 := m_mend s19; let r28 := q28.1; let s28 := q28.2; if r28 = 0 then (((-3), s28)) else (m_rec_42 14  ((s28 0 10).toNatClampNeg) s28)) else ((nI 0, s19))
def m_rec  (σ : me_M) : Int32 × me_M := let s2 := me_st σ 0 0 (nI 0); if (s2 0 25) = 0 then (m_rec_18  (nI 1) s2) else (m_rec_18  (nI 0) s2)
set_option maxRecDepth 100000 in
set_option maxHeartbeats 4000000 in
theorem c_X4_recover (l : Launch) (D : va_G) (cy : Nat → ClassId) (ad : Nat → Nat) (xr : va_W)  (σ : me_M) (hI : m_I σ) (hdw : ¬ σ 0 25 = 0 → σ 0 18 = nI 0) (sz : Nat) : me_Ci l yX4_recover wsX4_recover ({ frames := 5, cells := 0, slots := 0, locals := 115 }) D (me_T cy) (mm_W cy ad xr) [.ref (ad 0)] sz σ (m_rec  σ) := by
  refine Met.ofW (cc := cX4_recover) (maxL := 4) (ret := (some .int)) (by decide) rfl ?_
  intro p e st m args below meth c s₁ B hml hv
  obtain ⟨rfl, hsz, hP, hK, hD0⟩ := hv
  have hx := B.exec
  have hb := B.bytes
  have hr := B.returns
  have hts := atoms_spec (ws := wsX4_recover) B.pre
  have hown : st.vm.findClass RX4 = some m.cls := findClass_of_methodNamed B.named
  have hlocks := B.notSynchronized
  have in4 : ∀ w ∈ u_ws RX4 TX4 29, w ∈ wsX4_recover := by decide +kernel
  have k25 := hts (.fieldLink RX4 25 "TwinWritesModel" "logNumber" "[I") (by decide +kernel)
  have k28 := hts (.fieldLink RX4 28 "TwinWritesModel" "logPage" "[I") (by decide +kernel)
  have k31 := hts (.fieldLink RX4 31 "TwinWritesModel" "logWhich" "[I") (by decide +kernel)
  have k34 := hts (.fieldLink RX4 34 "TwinWritesModel" "logWord" "[I") (by decide +kernel)
  have k37 := hts (.fieldLink RX4 37 "TwinWritesModel" "mark" "I") (by decide +kernel)
  have k44 := hts (.fieldLink RX4 44 "TwinWritesModel" "frameStamp" "[I") (by decide +kernel)
  have k47 := hts (.fieldLink RX4 47 "TwinWritesModel" "isDirty" "[Z") (by decide +kernel)
  have k54 := hts (.fieldLink RX4 54 "TwinWritesModel" "frameWord" "[I") (by decide +kernel)
  have k57 := hts (.fieldLink RX4 57 "TwinWritesModel" "next" "I") (by decide +kernel)
  have k75 := hts (.fieldLink RX4 75 "TwinWritesModel" "thrown" "I") (by decide +kernel)
  have k78 := hts (.fieldLink RX4 78 "TwinWritesModel" "isDown" "Z") (by decide +kernel)
  subst hsz
  have hD := hD0.self (sz := st.heap.size)
  have hA : ∀ q : Nat, st.heap.size ≤ q → va_A ((mm_W cy ad xr) σ) st.heap.size q := fun q h => Or.inr h
  have hS : va_S (va_A ((mm_W cy ad xr) σ) st.heap.size) st.heap st.heap [] := va_S.rf
  generalize va_A ((mm_W cy ad xr) σ) st.heap.size = A at hD hA hS ⊢
  have hl := lv_entry ([.ref (ad 0)]) (n := 4) (Nat.le_of_ble_eq_true rfl)
  rw [lg_entry_eq]
  generalize (lg_sl ([.ref (ad 0)]) ++ List.replicate (4 - (lg_sl ([.ref (ad 0)])).length) Slot.unset).toArray = ls at hl ⊢
  have hl : lv_has ls 4 [(0, .ref (ad 0))] := hl
  refine lv_aload_n hx hb dX4_recover_0 rfl (lv_at hl 0 rfl) ?_
  refine lv_iconst (v := nI 0) hx hb dX4_recover_1 (by decide) ?_
  refine me_put (ty := .int) (ci := 4) (C := RX4) (T := TX4) (M := 29) hx hb hts in4 tyX4 tyX4_ok nmX4 hown hK hP hD hS 0 (by omega) (mm_0 cy ad _) rfl 0 (by decide) k75 (fun _ h9 => h9) rfl (by decide +kernel) rfl rfl (Nat.le_of_ble_eq_true rfl) (mm_0 cy ad _) dX4_recover_2 (fun s2 H locs e2 hP hD hS => ?_)
  have J18 : ∀ (z : Int32) (s : me_M) (H : Heap) (locs : List Loc) (hP : va_P D vwCl ((mm_W cy ad xr) s) H) (hD : va_D A ((mm_W cy ad xr) s)) (hS : va_S A st.heap H locs) (ls : Array Slot) (hl : lv_has ls 4 [(0, .ref (ad 0))]), ∀ (h0 : s 0 0 = nI 0), ∀ (hI : m_I s), ∀ (hw : ¬ s 0 25 = 0 → s 0 18 = nI 0), ∀ (hz : z = nI 1 ∨ (z = nI 0 ∧ ¬ s 0 25 = 0)), m_rec  σ = m_rec_18  z s → W p l e (headSpec wsX4_recover ({ frames := 5, cells := 0, slots := 0, locals := 115 })).room st m ([.ref (ad 0)] : List Value).toArray below meth c H locs 0 0 (MQ below (va_Qi (fun r σ' => (r, σ') = m_rec  σ) (me_B D (me_T cy) A (mm_W cy ad xr)) A) ([.ref (ad 0)] : List Value).toArray st 0 0 A) (F0 m 18 ls [.int z, .ref (ad 0)]) := by
    intro z s H locs hP hD hS ls hl h0 hI hw hz hf18
    refine lv_iconst (v := nI 1) hx hb dX4_recover_18 (by decide) ?_
    refine me_calli (f := m_ref z (nI 1) s) (w := (mm_W cy ad xr)) (σ := s) (As := [.int z, .int (nI 1)]) (rest := []) ⟨hx, hb, hml, hown, hts⟩ (fun sz => c_X4_refuses l D cy ad xr z (nI 1) s  sz) (cwV 2 hts gX4_recover_X4_refuses rfl rfl rfl (by decide +kernel) ⟨Nat.le_of_ble_eq_true rfl, Nat.le_of_ble_eq_true rfl⟩) (va_recv hK hP (ci := 4) (q0 := 0) rfl (me_get (by omega) (mm_0 cy ad _))) hK hP hD hS hA rfl hl.1 rfl (Nat.le_of_ble_eq_true rfl) dX4_recover_19 ⟨Nat.zero_le _, Nat.zero_le _⟩ (fun r19 s19 H locs e19 hP hD hS => ?_)
    refine lv_if_eq (tgt := 27) hx hb dX4_recover_22 (by decide) (fun c22 => ?_) (fun c22 => ?_)
    ·
      refine lv_aload_n hx hb dX4_recover_27 rfl (lv_at hl 0 rfl) ?_
      refine me_calli (f := m_mend s19) (w := (mm_W cy ad xr)) (σ := s19) (As := []) (rest := []) ⟨hx, hb, hml, hown, hts⟩ (fun sz => c_X4_mend l D cy ad xr  s19 (pu_ref_I e19 hI) sz) (cwV 0 hts gX4_recover_X4_mend rfl rfl rfl (by decide +kernel) ⟨Nat.le_of_ble_eq_true rfl, Nat.le_of_ble_eq_true rfl⟩) (va_recv hK hP (ci := 4) (q0 := 0) rfl (me_get (by omega) (mm_0 cy ad _))) hK hP hD hS hA rfl hl.1 rfl (Nat.le_of_ble_eq_true rfl) dX4_recover_28 ⟨Nat.zero_le _, Nat.zero_le _⟩ (fun r28 s28 H locs e28 hP hD hS => ?_)
      have gM := pu_mmend e28 (pu_ref_I e19 hI)
      have hw28 : s28 0 18 = nI 0 := (gM.2.2.2.2 (by rw [(pu_ref0 e19 h0 (by decide) c22).2]; exact hw (pu_or e19 h0 (by decide) c22 hz))).1
      refine lv_if_ne (tgt := 37) hx hb dX4_recover_31 (by decide) (fun c31 => ?_) (fun c31 => ?_)
      ·
        refine lv_aload_n hx hb dX4_recover_37 rfl (lv_at hl 0 rfl) ?_
        refine va_get (D := D) (ci := 4) (v := .int (s28 0 10)) (C := RX4) (T := TX4) (N := 29) hx hb hts in4 hown hK hP 0 (me_get (by omega) (mm_0 cy ad _)) rfl 10 (by decide) k37 (fun _ h9 => h9) rfl dX4_recover_38 ?_
        have b38 := me_inb gM.1.2.2.2.2.1
        obtain ⟨m0, em0⟩ : ∃ z, z = (s28 0 10).toNatClampNeg := ⟨_, rfl⟩
        refine me_top (me_ine gM.1.2.2.2.2.1) ?_
        refine lv_istore_n (lv' := [(1, .int (nI ((s28 0 10).toNatClampNeg))), (0, .ref (ad 0))]) hx hb dX4_recover_41 rfl hl (by decide) rfl (fun ls hl => ?_)
        have J42 : ∀ (n : Nat) (i : Nat) (s : me_M) (H : Heap) (locs : List Loc) (hP : va_P D vwCl ((mm_W cy ad xr) s) H) (hD : va_D A ((mm_W cy ad xr) s)) (hS : va_S A st.heap H locs) (ls : Array Slot) (hl : lv_has ls 4 [(1, .int (nI i)), (0, .ref (ad 0))]), ∀ (hm : m0 ≤ i ∧ i ≤ m0 + 12 ∧ m0 < 100000), ∀ (hn : m0 + 14 ≤ i + n), ∀ (hI : m_I s), ∀ (hw : s 0 18 = nI 0), ∀ (hlog : ∀ j, m0 ≤ j → j < i → s 6 (j % 12) = nI j), m_rec  σ = m_rec_42 n  i s → W p l e (headSpec wsX4_recover ({ frames := 5, cells := 0, slots := 0, locals := 115 })).room st m ([.ref (ad 0)] : List Value).toArray below meth c H locs 0 0 (MQ below (va_Qi (fun r σ' => (r, σ') = m_rec  σ) (me_B D (me_T cy) A (mm_W cy ad xr)) A) ([.ref (ad 0)] : List Value).toArray st 0 0 A) (F0 m 42 ls []) := by
          intro n
          induction n with
          | zero => intro i s H locs hP hD hS ls hl hm hn hI hw hlog hf42; exfalso; omega
          | succ n ih =>
            intro i s H locs hP hD hS ls hl hm hn hI hw hlog hf42
            refine lv_aload_n hx hb dX4_recover_42 rfl (lv_at hl 1 rfl) ?_
            refine va_get (D := D) (ci := 4) (v := .ref (ad 6)) (C := RX4) (T := TX4) (N := 29) hx hb hts in4 hown hK hP 0 (me_get (by omega) (mm_0 cy ad _)) rfl 6 (by decide) k25 (fun _ h9 => h9) rfl dX4_recover_43 ?_
            refine lv_iload_n hx hb dX4_recover_46 rfl (lv_at hl 0 rfl) ?_
            refine lv_bipush (v := nI 12) hx hb dX4_recover_47 (by decide) ?_
            refine lv_irem hx hb dX4_recover_49 (by decide) ?_
            refine me_top (pk_rem (by omega) (by omega) (by omega)) ?_
            refine me_iald hx hb hK hP 6 0 (by omega) (fun f => mm_6 cy ad f) rfl (i % 12) rfl (by omega) (by decide) dX4_recover_50 ?_
            refine lv_iload_n hx hb dX4_recover_51 rfl (lv_at hl 0 rfl) ?_
            refine lv_icmp_ne (tgt := 131) hx hb dX4_recover_52 (by decide) (fun c52 => ?_) (fun c52 => ?_)
            ·
              refine lv_aload_n hx hb dX4_recover_131 rfl (lv_at hl 1 rfl) ?_
              refine lv_iload_n hx hb dX4_recover_132 rfl (lv_at hl 0 rfl) ?_
              refine me_put (ty := .int) (ci := 4) (C := RX4) (T := TX4) (M := 29) hx hb hts in4 tyX4 tyX4_ok nmX4 hown hK hP hD hS 0 (by omega) (mm_0 cy ad _) rfl 17 (by decide) k57 (fun _ h9 => h9) rfl (by decide +kernel) rfl rfl (Nat.le_of_ble_eq_true rfl) (mm_0 cy ad _) dX4_recover_133 (fun s133 H locs e133 hP hD hS => ?_)
              refine lv_aload_n hx hb dX4_recover_136 rfl (lv_at hl 1 rfl) ?_
              refine lv_iconst (v := nI 0) hx hb dX4_recover_137 (by decide) ?_
              refine me_put (ty := .boolean) (ci := 4) (C := RX4) (T := TX4) (M := 29) hx hb hts in4 tyX4 tyX4_ok nmX4 hown hK hP hD hS 0 (by omega) (mm_0 cy ad _) rfl 25 (by decide) k78 (fun _ h9 => h9) rfl (by decide +kernel) rfl rfl (Nat.le_of_ble_eq_true rfl) (mm_0 cy ad _) dX4_recover_138 (fun s138 H locs e138 hP hD hS => ?_)
              refine lv_iload_n hx hb dX4_recover_141 rfl (lv_at hl 0 rfl) ?_
              refine lv_iconst (v := nI 1) hx hb dX4_recover_142 (by decide) ?_
              refine lv_isub hx hb dX4_recover_143 ?_
              exact me_reti hx hb hr rfl hlocks hK hP hD hS (by first | (rw [hf42]; simp only [m_rec_42, if_neg c52, e133, e138]; done) | contradiction) dX4_recover_144
            ·
              have hlt := pu_rlt hm hlog c52
              refine lv_iload_n hx hb dX4_recover_55 rfl (lv_at hl 0 rfl) ?_
              refine lv_bipush (v := nI 12) hx hb dX4_recover_56 (by decide) ?_
              refine lv_irem hx hb dX4_recover_58 (by decide) ?_
              refine me_top (pk_rem (by omega) (by omega) (by omega)) ?_
              refine lv_istore_n (lv' := [(2, .int (nI (i % 12))), (1, .int (nI i)), (0, .ref (ad 0))]) hx hb dX4_recover_59 rfl hl (by decide) rfl (fun ls hl => ?_)
              refine lv_aload_n hx hb dX4_recover_60 rfl (lv_at hl 2 rfl) ?_
              refine lv_aload_n hx hb dX4_recover_61 rfl (lv_at hl 2 rfl) ?_
              refine va_get (D := D) (ci := 4) (v := .ref (ad 7)) (C := RX4) (T := TX4) (N := 29) hx hb hts in4 hown hK hP 0 (me_get (by omega) (mm_0 cy ad _)) rfl 7 (by decide) k28 (fun _ h9 => h9) rfl dX4_recover_62 ?_
              refine lv_iload_n hx hb dX4_recover_65 rfl (lv_at hl 0 rfl) ?_
              refine me_iald hx hb hK hP 7 0 (by omega) (fun f => mm_7 cy ad f) rfl (i % 12) rfl (by omega) (by decide) dX4_recover_66 ?_
              have v67_g : vp_in (s 7 (i % 12)) 12 := (hI.2.2.2.1 (i % 12) (by omega)).1
              have b67_g := me_inb v67_g
              have q67_g : (s 7 (i % 12)) = nI ((s 7 (i % 12)).toNatClampNeg) := me_ine v67_g
              refine me_calli (f := m_br ((s 7 (i % 12)).toNatClampNeg) s) (w := (mm_W cy ad xr)) (σ := s) (As := [.int (s 7 (i % 12))]) (rest := []) ⟨hx, hb, hml, hown, hts⟩ (fun sz => me_av (av := [.ref (ad 0), .int (nI ((s 7 (i % 12)).toNatClampNeg))]) (by simp only [← q67_g]) (c_X4_bring l D cy ad xr ((s 7 (i % 12)).toNatClampNeg) s (by omega) (hI) sz)) (cwV 1 hts gX4_recover_X4_bring rfl rfl rfl (by decide +kernel) ⟨Nat.le_of_ble_eq_true rfl, Nat.le_of_ble_eq_true rfl⟩) (va_recv hK hP (ci := 4) (q0 := 0) rfl (me_get (by omega) (mm_0 cy ad _))) hK hP hD hS hA rfl hl.1 rfl (Nat.le_of_ble_eq_true rfl) dX4_recover_67 ⟨Nat.zero_le _, Nat.zero_le _⟩ (fun r67 s67 H locs e67 hP hD hS => ?_)
              have gB := pu_mbr e67 b67_g hI
              refine lv_istore_n (lv' := [(3, .int r67), (2, .int (nI (i % 12))), (1, .int (nI i)), (0, .ref (ad 0))]) hx hb dX4_recover_70 rfl hl (by decide) rfl (fun ls hl => ?_)
              refine lv_iload_n hx hb dX4_recover_71 rfl (lv_at hl 0 rfl) ?_
              refine lv_iconst (v := (-1)) hx hb dX4_recover_72 (by decide) ?_
              refine lv_icmp_ne (tgt := 79) hx hb dX4_recover_73 (by decide) (fun c73 => ?_) (fun c73 => ?_)
              ·
                refine lv_aload_n hx hb dX4_recover_79 rfl (lv_at hl 3 rfl) ?_
                refine va_get (D := D) (ci := 4) (v := .ref (ad 11)) (C := RX4) (T := TX4) (N := 29) hx hb hts in4 hown hK hP 0 (me_get (by omega) (mm_0 cy ad _)) rfl 12 (by decide) k44 (fun _ h9 => h9) rfl dX4_recover_80 ?_
                refine lv_iload_n hx hb dX4_recover_83 rfl (lv_at hl 0 rfl) ?_
                have v84 : vp_in r67 4 := (gB.2.2 c73).1
                have b84 := me_inb v84
                refine me_iald hx hb hK hP 11 0 (by omega) (fun f => mm_11 cy ad f) rfl r67.toNatClampNeg (me_ine v84) (by omega) (by decide) dX4_recover_84 ?_
                refine lv_iload_n hx hb dX4_recover_85 rfl (lv_at hl 2 rfl) ?_
                refine lv_icmp_ge (tgt := 125) hx hb dX4_recover_86 (by decide) (fun c86 => ?_) (fun c86 => ?_)
                ·
                  refine lv_iinc (v := nI (i + 1)) (lv' := [(1, .int (nI (i + 1))), (3, .int r67), (2, .int (nI (i % 12))), (0, .ref (ad 0))]) hx hb dX4_recover_125 hl (k := 2) rfl (me_inc _) (by decide) rfl (fun ls hl => ?_)
                  refine lv_goto (tgt := 42) hx hb dX4_recover_128 (by decide) ?_
                  exact ih (i + 1) s67 _ _ hP hD hS ls (lv_sub hl [0, 3] rfl) (by omega) (by omega) (by first | exact gB.1 | exact (pu_rst e110 e117 e124 (by rw [(gB.2.2 c73).2]; exact vp_in_nI b67_g (by decide)) gB.1).1) (by first | exact (gB.2.1.2.2.2 hw).1 | (rw [(pu_rst e110 e117 e124 (by rw [(gB.2.2 c73).2]; exact vp_in_nI b67_g (by decide)) gB.1).2.1]; exact (gB.2.1.2.2.2 hw).1)) (by first | exact pu_rlog (gB.2.1.2.2.2 hw).2 hlog c52 | exact pu_rlog ((pu_rst e110 e117 e124 (by rw [(gB.2.2 c73).2]; exact vp_in_nI b67_g (by decide)) gB.1).2.2.1.trans (gB.2.1.2.2.2 hw).2) hlog c52) (by rw [hf42]; simp only [m_rec_42, if_pos c52, e67, if_neg c73, if_pos c86])
                ·
                  refine lv_aload_n hx hb dX4_recover_89 rfl (lv_at hl 3 rfl) ?_
                  refine va_get (D := D) (ci := 4) (v := .ref (ad 14)) (C := RX4) (T := TX4) (N := 29) hx hb hts in4 hown hK hP 0 (me_get (by omega) (mm_0 cy ad _)) rfl 15 (by decide) k54 (fun _ h9 => h9) rfl dX4_recover_90 ?_
                  refine lv_bipush (v := nI 16) hx hb dX4_recover_93 (by decide) ?_
                  refine lv_iload_n hx hb dX4_recover_95 rfl (lv_at hl 0 rfl) ?_
                  have b95 := me_inb (gB.2.2 c73).1
                  refine me_top (me_ine (gB.2.2 c73).1) ?_
                  refine lv_imul hx hb dX4_recover_96 ?_
                  refine me_top (pk_mul _ _) ?_
                  refine lv_aload_n hx hb dX4_recover_97 rfl (lv_at hl 3 rfl) ?_
                  refine va_get (D := D) (ci := 4) (v := .ref (ad 8)) (C := RX4) (T := TX4) (N := 29) hx hb hts in4 hown hK hP 0 (me_get (by omega) (mm_0 cy ad _)) rfl 8 (by decide) k31 (fun _ h9 => h9) rfl dX4_recover_98 ?_
                  refine lv_iload_n hx hb dX4_recover_101 rfl (lv_at hl 1 rfl) ?_
                  refine me_iald hx hb hK hP 8 0 (by omega) (fun f => mm_8 cy ad f) rfl (i % 12) rfl (by omega) (by decide) dX4_recover_102 ?_
                  have b102 := me_inb (gB.1.2.2.2.1 (i % 12) (by omega)).2
                  refine me_top (me_ine (gB.1.2.2.2.1 (i % 12) (by omega)).2) ?_
                  refine lv_iadd hx hb dX4_recover_103 ?_
                  refine me_top (nI_add _ _) ?_
                  refine lv_aload_n hx hb dX4_recover_104 rfl (lv_at hl 3 rfl) ?_
                  refine va_get (D := D) (ci := 4) (v := .ref (ad 9)) (C := RX4) (T := TX4) (N := 29) hx hb hts in4 hown hK hP 0 (me_get (by omega) (mm_0 cy ad _)) rfl 9 (by decide) k34 (fun _ h9 => h9) rfl dX4_recover_105 ?_
                  refine lv_iload_n hx hb dX4_recover_108 rfl (lv_at hl 1 rfl) ?_
                  refine me_iald hx hb hK hP 9 0 (by omega) (fun f => mm_9 cy ad f) rfl (i % 12) rfl (by omega) (by decide) dX4_recover_109 ?_
                  refine me_iast hx hb hK hP hD hS 14 0 (by omega) (fun f => mm_14 cy ad f) rfl (16 * r67.toNatClampNeg + ((s67 8 (i % 12)).toNatClampNeg)) rfl (by omega) (by decide) dX4_recover_110 (fun s110 H locs e110 hP hD hS => ?_)
                  refine lv_aload_n hx hb dX4_recover_111 rfl (lv_at hl 3 rfl) ?_
                  refine va_get (D := D) (ci := 4) (v := .ref (ad 11)) (C := RX4) (T := TX4) (N := 29) hx hb hts in4 hown hK hP 0 (me_get (by omega) (mm_0 cy ad _)) rfl 12 (by decide) k44 (fun _ h9 => h9) rfl dX4_recover_112 ?_
                  refine lv_iload_n hx hb dX4_recover_115 rfl (lv_at hl 0 rfl) ?_
                  refine lv_iload_n hx hb dX4_recover_116 rfl (lv_at hl 2 rfl) ?_
                  have v117 : vp_in r67 4 := (gB.2.2 c73).1
                  have b117 := me_inb v117
                  refine me_iast hx hb hK hP hD hS 11 0 (by omega) (fun f => mm_11 cy ad f) rfl r67.toNatClampNeg (me_ine v117) (by omega) (by decide) dX4_recover_117 (fun s117 H locs e117 hP hD hS => ?_)
                  refine lv_aload_n hx hb dX4_recover_118 rfl (lv_at hl 3 rfl) ?_
                  refine va_get (D := D) (ci := 4) (v := .ref (ad 12)) (C := RX4) (T := TX4) (N := 29) hx hb hts in4 hown hK hP 0 (me_get (by omega) (mm_0 cy ad _)) rfl 13 (by decide) k47 (fun _ h9 => h9) rfl dX4_recover_119 ?_
                  refine lv_iload_n hx hb dX4_recover_122 rfl (lv_at hl 0 rfl) ?_
                  refine lv_iconst (v := nI 1) hx hb dX4_recover_123 (by decide) ?_
                  have v124 : vp_in r67 4 := (gB.2.2 c73).1
                  have b124 := me_inb v124
                  refine me_zast hx hb hK hP hD hS 12 1 (by omega) (fun f => mm_12 cy ad f) rfl r67.toNatClampNeg (me_ine v124) (by omega) (by decide) (by decide) dX4_recover_124 (fun s124 H locs e124 hP hD hS => ?_)
                  refine lv_iinc (v := nI (i + 1)) (lv' := [(1, .int (nI (i + 1))), (3, .int r67), (2, .int (nI (i % 12))), (0, .ref (ad 0))]) hx hb dX4_recover_125 hl (k := 2) rfl (me_inc _) (by decide) rfl (fun ls hl => ?_)
                  refine lv_goto (tgt := 42) hx hb dX4_recover_128 (by decide) ?_
                  exact ih (i + 1) s124 _ _ hP hD hS ls (lv_sub hl [0, 3] rfl) (by omega) (by omega) (by first | exact gB.1 | exact (pu_rst e110 e117 e124 (by rw [(gB.2.2 c73).2]; exact vp_in_nI b67_g (by decide)) gB.1).1) (by first | exact (gB.2.1.2.2.2 hw).1 | (rw [(pu_rst e110 e117 e124 (by rw [(gB.2.2 c73).2]; exact vp_in_nI b67_g (by decide)) gB.1).2.1]; exact (gB.2.1.2.2.2 hw).1)) (by first | exact pu_rlog (gB.2.1.2.2.2 hw).2 hlog c52 | exact pu_rlog ((pu_rst e110 e117 e124 (by rw [(gB.2.2 c73).2]; exact vp_in_nI b67_g (by decide)) gB.1).2.2.1.trans (gB.2.1.2.2.2 hw).2) hlog c52) (by rw [hf42]; simp only [m_rec_42, if_pos c52, e67, if_neg c73, if_neg c86, e110, e117, e124])
              ·
                refine lv_bipush (v := (-3)) hx hb dX4_recover_76 (by decide) ?_
                exact me_reti hx hb hr rfl hlocks hK hP hD hS (by first | (rw [hf42]; simp only [m_rec_42, if_pos c52, e67, if_pos c73]; done) | contradiction) dX4_recover_78
        exact J42 14 ((s28 0 10).toNatClampNeg) s28 _ _ hP hD hS ls (lv_sub hl [0, 1] rfl) (by omega) (by omega) (gM.1) (hw28) (fun j h1 h2 => by omega) (by rw [hf18]; simp only [m_rec_18, e19, if_pos c22, e28, if_neg c31])
      ·
        refine lv_bipush (v := (-3)) hx hb dX4_recover_34 (by decide) ?_
        exact me_reti hx hb hr rfl hlocks hK hP hD hS (by first | (rw [hf18]; simp only [m_rec_18, e19, if_pos c22, e28, if_pos c31]; done) | contradiction) dX4_recover_36
    ·
      refine lv_iconst (v := nI 0) hx hb dX4_recover_25 (by decide) ?_
      exact me_reti hx hb hr rfl hlocks hK hP hD hS (by first | (rw [hf18]; simp only [m_rec_18, e19, if_neg c22]; done) | contradiction) dX4_recover_26
  refine lv_aload_n hx hb dX4_recover_5 rfl (lv_at hl 0 rfl) ?_
  refine lv_aload_n hx hb dX4_recover_6 rfl (lv_at hl 0 rfl) ?_
  refine va_get (D := D) (ci := 4) (v := .int (s2 0 25)) (C := RX4) (T := TX4) (N := 29) hx hb hts in4 hown hK hP 0 (me_get (by omega) (mm_0 cy ad _)) rfl 25 (by decide) k78 (fun _ h9 => h9) rfl dX4_recover_7 ?_
  refine lv_if_ne (tgt := 17) hx hb dX4_recover_10 (by decide) (fun c10 => ?_) (fun c10 => ?_)
  ·
    refine lv_iconst (v := nI 0) hx hb dX4_recover_17 (by decide) ?_
    exact J18 (nI 0) s2 _ _ hP hD hS ls (lv_sub hl [0] rfl) (pu_thz e2) (pu_th_I e2 hI) (by rw [← e2, me_st_s _ _ _ (by decide), me_st_s _ _ _ (by decide)]; exact hdw) (by first | exact Or.inl rfl | exact Or.inr ⟨rfl, c10⟩) (by simp only [m_rec, e2, if_neg c10])
  ·
    refine lv_iconst (v := nI 1) hx hb dX4_recover_13 (by decide) ?_
    refine lv_goto (tgt := 18) hx hb dX4_recover_14 (by decide) ?_
    exact J18 (nI 1) s2 _ _ hP hD hS ls (lv_sub hl [0] rfl) (pu_thz e2) (pu_th_I e2 hI) (by rw [← e2, me_st_s _ _ _ (by decide), me_st_s _ _ _ (by decide)]; exact hdw) (by first | exact Or.inl rfl | exact Or.inr ⟨rfl, c10⟩) (by simp only [m_rec, e2, if_pos c10])
