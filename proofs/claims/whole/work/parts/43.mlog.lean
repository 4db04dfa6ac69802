def m_lw_2 : Nat → Nat → me_M → Int32 × me_M
  | 0, i, s => (0, s)
  | n + 1, i, s => if nI ((s 0 18).toNatClampNeg) ≤ (nI i) then (let s85 := me_st s 0 18 (nI 0); (nI 1, s85)) else (let q11 := m_mw s; let r11 := q11.1; let s11 := q11.2; if r11 = 0 then ((nI 0, s11)) else (let s40 := me_st s11 6 (((s11 15 i).toNatClampNeg) % 12) (s11 15 i); let s52 := me_st s40 7 (((s11 15 i).toNatClampNeg) % 12) (s40 16 i); let s64 := me_st s52 8 (((s11 15 i).toNatClampNeg) % 12) (s52 17 i); let s76 := me_st s64 9 (((s11 15 i).toNatClampNeg) % 12) (s64 18 i); m_lw_2 n  (i + 1) s76))
def m_lw  (σ : me_M) : Int32 × me_M := m_lw_2 14  0 σ
set_option maxRecDepth 100000 in
set_option maxHeartbeats 4000000 in
theorem c_X4_logWaiting (l : Launch) (D : va_G) (cy : Nat → ClassId) (ad : Nat → Nat) (xr : va_W)  (σ : me_M) (hI : m_I σ) (sz : Nat) : me_Ci l yX4_logWaiting wsX4_logWaiting ({ frames := 2, cells := 0, slots := 0, locals := 41 }) D (me_T cy) (mm_W cy ad xr) [.ref (ad 0)] sz σ (m_lw  σ) := by
  refine Met.ofW (cc := cX4_logWaiting) (maxL := 3) (ret := (some .boolean)) (by decide) rfl ?_
  intro p e st m args below meth c s₁ B hml hv
  obtain ⟨rfl, hsz, hP, hK, hD0⟩ := hv
  have hx := B.exec
  have hb := B.bytes
  have hr := B.returns
  have hts := atoms_spec (ws := wsX4_logWaiting) B.pre
  have hown : st.vm.findClass RX4 = some m.cls := findClass_of_methodNamed B.named
  have hlocks := B.notSynchronized
  have in4 : ∀ w ∈ u_ws RX4 TX4 29, w ∈ wsX4_logWaiting := by decide +kernel
  have k25 := hts (.fieldLink RX4 25 "TwinWritesModel" "logNumber" "[I") (by decide +kernel)
  have k28 := hts (.fieldLink RX4 28 "TwinWritesModel" "logPage" "[I") (by decide +kernel)
  have k31 := hts (.fieldLink RX4 31 "TwinWritesModel" "logWhich" "[I") (by decide +kernel)
  have k34 := hts (.fieldLink RX4 34 "TwinWritesModel" "logWord" "[I") (by decide +kernel)
  have k60 := hts (.fieldLink RX4 60 "TwinWritesModel" "waitNumber" "[I") (by decide +kernel)
  have k63 := hts (.fieldLink RX4 63 "TwinWritesModel" "waitPage" "[I") (by decide +kernel)
  have k66 := hts (.fieldLink RX4 66 "TwinWritesModel" "waitWhich" "[I") (by decide +kernel)
  have k69 := hts (.fieldLink RX4 69 "TwinWritesModel" "waitWord" "[I") (by decide +kernel)
  have k82 := hts (.fieldLink RX4 82 "TwinWritesModel" "waiting" "I") (by decide +kernel)
  subst hsz
  have hD := hD0.self (sz := st.heap.size)
  have hA : ∀ q : Nat, st.heap.size ≤ q → va_A ((mm_W cy ad xr) σ) st.heap.size q := fun q h => Or.inr h
  have hS : va_S (va_A ((mm_W cy ad xr) σ) st.heap.size) st.heap st.heap [] := va_S.rf
  generalize va_A ((mm_W cy ad xr) σ) st.heap.size = A at hD hA hS ⊢
  have hl := lv_entry ([.ref (ad 0)]) (n := 3) (Nat.le_of_ble_eq_true rfl)
  rw [lg_entry_eq]
  generalize (lg_sl ([.ref (ad 0)]) ++ List.replicate (3 - (lg_sl ([.ref (ad 0)])).length) Slot.unset).toArray = ls at hl ⊢
  have hl : lv_has ls 3 [(0, .ref (ad 0))] := hl
  refine lv_iconst (v := nI 0) hx hb dX4_logWaiting_0 (by decide) ?_
  refine lv_istore_n (lv' := [(1, .int (nI 0)), (0, .ref (ad 0))]) hx hb dX4_logWaiting_1 rfl hl (by decide) rfl (fun ls hl => ?_)
  have J2 : ∀ (n : Nat) (i : Nat) (s : me_M) (H : Heap) (locs : List Loc) (hP : va_P D vwCl ((mm_W cy ad xr) s) H) (hD : va_D A ((mm_W cy ad xr) s)) (hS : va_S A st.heap H locs) (ls : Array Slot) (hl : lv_has ls 3 [(1, .int (nI i)), (0, .ref (ad 0))]), ∀ (hi : i ≤ 13), ∀ (hn : 14 ≤ i + n), ∀ (hI : m_I s), m_lw  σ = m_lw_2 n  i s → W p l e (headSpec wsX4_logWaiting ({ frames := 2, cells := 0, slots := 0, locals := 41 })).room st m ([.ref (ad 0)] : List Value).toArray below meth c H locs 0 0 (MQ below (va_Qi (fun r σ' => (r, σ') = m_lw  σ) (me_B D (me_T cy) A (mm_W cy ad xr)) A) ([.ref (ad 0)] : List Value).toArray st 0 0 A) (F0 m 2 ls []) := by
    intro n
    induction n with
    | zero => intro i s H locs hP hD hS ls hl hi hn hI hf2; exfalso; omega
    | succ n ih =>
      intro i s H locs hP hD hS ls hl hi hn hI hf2
      refine lv_iload_n hx hb dX4_logWaiting_2 rfl (lv_at hl 0 rfl) ?_
      refine lv_aload_n hx hb dX4_logWaiting_3 rfl (lv_at hl 1 rfl) ?_
      refine va_get (D := D) (ci := 4) (v := .int (s 0 18)) (C := RX4) (T := TX4) (N := 29) hx hb hts in4 hown hK hP 0 (me_get (by omega) (mm_0 cy ad _)) rfl 18 (by decide) k82 (fun _ h9 => h9) rfl dX4_logWaiting_4 ?_
      have b4 := me_inb hI.1
      refine me_top (me_ine hI.1) ?_
      refine lv_icmp_ge (tgt := 83) hx hb dX4_logWaiting_7 (by decide) (fun c7 => ?_) (fun c7 => ?_)
      ·
        try have h7 := (nI_leI (by omega) (by omega)).mp c7
        refine lv_aload_n hx hb dX4_logWaiting_83 rfl (lv_at hl 1 rfl) ?_
        refine lv_iconst (v := nI 0) hx hb dX4_logWaiting_84 (by decide) ?_
        refine me_put (ty := .int) (ci := 4) (C := RX4) (T := TX4) (M := 29) hx hb hts in4 tyX4 tyX4_ok nmX4 hown hK hP hD hS 0 (by omega) (mm_0 cy ad _) rfl 18 (by decide) k82 (fun _ h9 => h9) rfl (by decide +kernel) rfl rfl (Nat.le_of_ble_eq_true rfl) (mm_0 cy ad _) dX4_logWaiting_85 (fun s85 H locs e85 hP hD hS => ?_)
        refine lv_iconst (v := nI 1) hx hb dX4_logWaiting_88 (by decide) ?_
        exact me_reti hx hb hr rfl hlocks hK hP hD hS (by rw [hf2]; simp only [m_lw_2, if_pos c7, e85]) dX4_logWaiting_89
      ·
        try have h7 := (not_congr (nI_leI (by omega) (by omega))).mp c7
        refine lv_aload_n hx hb dX4_logWaiting_10 rfl (lv_at hl 1 rfl) ?_
        refine me_calli (f := m_mw s) (w := (mm_W cy ad xr)) (σ := s) (As := []) (rest := []) ⟨hx, hb, hml, hown, hts⟩ (fun sz => c_X4_mayWrite l D cy ad xr  s  sz) (cwV 0 hts gX4_logWaiting_X4_mayWrite rfl rfl rfl (by decide +kernel) ⟨Nat.le_of_ble_eq_true rfl, Nat.le_of_ble_eq_true rfl⟩) (va_recv hK hP (ci := 4) (q0 := 0) rfl (me_get (by omega) (mm_0 cy ad _))) hK hP hD hS hA rfl hl.1 rfl (Nat.le_of_ble_eq_true rfl) dX4_logWaiting_11 ⟨Nat.zero_le _, Nat.zero_le _⟩ (fun r11 s11 H locs e11 hP hD hS => ?_)
        have hJ := pu_mw_I e11 hI
        refine lv_if_ne (tgt := 19) hx hb dX4_logWaiting_14 (by decide) (fun c14 => ?_) (fun c14 => ?_)
        ·
          refine lv_aload_n hx hb dX4_logWaiting_19 rfl (lv_at hl 1 rfl) ?_
          refine va_get (D := D) (ci := 4) (v := .ref (ad 15)) (C := RX4) (T := TX4) (N := 29) hx hb hts in4 hown hK hP 0 (me_get (by omega) (mm_0 cy ad _)) rfl 19 (by decide) k60 (fun _ h9 => h9) rfl dX4_logWaiting_20 ?_
          refine lv_iload_n hx hb dX4_logWaiting_23 rfl (lv_at hl 0 rfl) ?_
          refine me_iald hx hb hK hP 15 0 (by omega) (fun f => mm_15 cy ad f) rfl i rfl (by omega) (by decide) dX4_logWaiting_24 ?_
          have b24 := me_inb (hJ.2.1 i (by omega)).1
          refine me_top (me_ine (hJ.2.1 i (by omega)).1) ?_
          refine lv_bipush (v := nI 12) hx hb dX4_logWaiting_25 (by decide) ?_
          refine lv_irem hx hb dX4_logWaiting_27 (by decide) ?_
          refine me_top (pk_rem (by omega) (by omega) (by omega)) ?_
          refine lv_istore_n (lv' := [(2, .int (nI (((s11 15 i).toNatClampNeg) % 12))), (1, .int (nI i)), (0, .ref (ad 0))]) hx hb dX4_logWaiting_28 rfl hl (by decide) rfl (fun ls hl => ?_)
          refine lv_aload_n hx hb dX4_logWaiting_29 rfl (lv_at hl 2 rfl) ?_
          refine va_get (D := D) (ci := 4) (v := .ref (ad 6)) (C := RX4) (T := TX4) (N := 29) hx hb hts in4 hown hK hP 0 (me_get (by omega) (mm_0 cy ad _)) rfl 6 (by decide) k25 (fun _ h9 => h9) rfl dX4_logWaiting_30 ?_
          refine lv_iload_n hx hb dX4_logWaiting_33 rfl (lv_at hl 0 rfl) ?_
          refine lv_aload_n hx hb dX4_logWaiting_34 rfl (lv_at hl 2 rfl) ?_
          refine va_get (D := D) (ci := 4) (v := .ref (ad 15)) (C := RX4) (T := TX4) (N := 29) hx hb hts in4 hown hK hP 0 (me_get (by omega) (mm_0 cy ad _)) rfl 19 (by decide) k60 (fun _ h9 => h9) rfl dX4_logWaiting_35 ?_
          refine lv_iload_n hx hb dX4_logWaiting_38 rfl (lv_at hl 1 rfl) ?_
          refine me_iald hx hb hK hP 15 0 (by omega) (fun f => mm_15 cy ad f) rfl i rfl (by omega) (by decide) dX4_logWaiting_39 ?_
          refine me_iast hx hb hK hP hD hS 6 0 (by omega) (fun f => mm_6 cy ad f) rfl (((s11 15 i).toNatClampNeg) % 12) rfl (by omega) (by decide) dX4_logWaiting_40 (fun s40 H locs e40 hP hD hS => ?_)
          refine lv_aload_n hx hb dX4_logWaiting_41 rfl (lv_at hl 2 rfl) ?_
          refine va_get (D := D) (ci := 4) (v := .ref (ad 7)) (C := RX4) (T := TX4) (N := 29) hx hb hts in4 hown hK hP 0 (me_get (by omega) (mm_0 cy ad _)) rfl 7 (by decide) k28 (fun _ h9 => h9) rfl dX4_logWaiting_42 ?_
          refine lv_iload_n hx hb dX4_logWaiting_45 rfl (lv_at hl 0 rfl) ?_
          refine lv_aload_n hx hb dX4_logWaiting_46 rfl (lv_at hl 2 rfl) ?_
          refine va_get (D := D) (ci := 4) (v := .ref (ad 16)) (C := RX4) (T := TX4) (N := 29) hx hb hts in4 hown hK hP 0 (me_get (by omega) (mm_0 cy ad _)) rfl 20 (by decide) k63 (fun _ h9 => h9) rfl dX4_logWaiting_47 ?_
          refine lv_iload_n hx hb dX4_logWaiting_50 rfl (lv_at hl 1 rfl) ?_
          refine me_iald hx hb hK hP 16 0 (by omega) (fun f => mm_16 cy ad f) rfl i rfl (by omega) (by decide) dX4_logWaiting_51 ?_
          refine me_iast hx hb hK hP hD hS 7 0 (by omega) (fun f => mm_7 cy ad f) rfl (((s11 15 i).toNatClampNeg) % 12) rfl (by omega) (by decide) dX4_logWaiting_52 (fun s52 H locs e52 hP hD hS => ?_)
          refine lv_aload_n hx hb dX4_logWaiting_53 rfl (lv_at hl 2 rfl) ?_
          refine va_get (D := D) (ci := 4) (v := .ref (ad 8)) (C := RX4) (T := TX4) (N := 29) hx hb hts in4 hown hK hP 0 (me_get (by omega) (mm_0 cy ad _)) rfl 8 (by decide) k31 (fun _ h9 => h9) rfl dX4_logWaiting_54 ?_
          refine lv_iload_n hx hb dX4_logWaiting_57 rfl (lv_at hl 0 rfl) ?_
          refine lv_aload_n hx hb dX4_logWaiting_58 rfl (lv_at hl 2 rfl) ?_
          refine va_get (D := D) (ci := 4) (v := .ref (ad 17)) (C := RX4) (T := TX4) (N := 29) hx hb hts in4 hown hK hP 0 (me_get (by omega) (mm_0 cy ad _)) rfl 21 (by decide) k66 (fun _ h9 => h9) rfl dX4_logWaiting_59 ?_
          refine lv_iload_n hx hb dX4_logWaiting_62 rfl (lv_at hl 1 rfl) ?_
          refine me_iald hx hb hK hP 17 0 (by omega) (fun f => mm_17 cy ad f) rfl i rfl (by omega) (by decide) dX4_logWaiting_63 ?_
          refine me_iast hx hb hK hP hD hS 8 0 (by omega) (fun f => mm_8 cy ad f) rfl (((s11 15 i).toNatClampNeg) % 12) rfl (by omega) (by decide) dX4_logWaiting_64 (fun s64 H locs e64 hP hD hS => ?_)
          refine lv_aload_n hx hb dX4_logWaiting_65 rfl (lv_at hl 2 rfl) ?_
          refine va_get (D := D) (ci := 4) (v := .ref (ad 9)) (C := RX4) (T := TX4) (N := 29) hx hb hts in4 hown hK hP 0 (me_get (by omega) (mm_0 cy ad _)) rfl 9 (by decide) k34 (fun _ h9 => h9) rfl dX4_logWaiting_66 ?_
          refine lv_iload_n hx hb dX4_logWaiting_69 rfl (lv_at hl 0 rfl) ?_
          refine lv_aload_n hx hb dX4_logWaiting_70 rfl (lv_at hl 2 rfl) ?_
          refine va_get (D := D) (ci := 4) (v := .ref (ad 18)) (C := RX4) (T := TX4) (N := 29) hx hb hts in4 hown hK hP 0 (me_get (by omega) (mm_0 cy ad _)) rfl 22 (by decide) k69 (fun _ h9 => h9) rfl dX4_logWaiting_71 ?_
          refine lv_iload_n hx hb dX4_logWaiting_74 rfl (lv_at hl 1 rfl) ?_
          refine me_iald hx hb hK hP 18 0 (by omega) (fun f => mm_18 cy ad f) rfl i rfl (by omega) (by decide) dX4_logWaiting_75 ?_
          refine me_iast hx hb hK hP hD hS 9 0 (by omega) (fun f => mm_9 cy ad f) rfl (((s11 15 i).toNatClampNeg) % 12) rfl (by omega) (by decide) dX4_logWaiting_76 (fun s76 H locs e76 hP hD hS => ?_)
          refine lv_iinc (v := nI (i + 1)) (lv' := [(1, .int (nI (i + 1))), (2, .int (nI (((s11 15 i).toNatClampNeg) % 12))), (0, .ref (ad 0))]) hx hb dX4_logWaiting_77 hl (k := 1) rfl (me_inc _) (by decide) rfl (fun ls hl => ?_)
          refine lv_goto (tgt := 2) hx hb dX4_logWaiting_80 (by decide) ?_
          exact ih (i + 1) s76 _ _ hP hD hS ls (lv_sub hl [0, 2] rfl) (by omega) (by omega) (pu_mlw_st e40 e52 e64 e76 (by omega) (by omega) hJ) (by rw [hf2]; simp only [m_lw_2, if_neg c7, e11, if_neg c14, e40, e52, e64, e76])
        ·
          refine lv_iconst (v := nI 0) hx hb dX4_logWaiting_17 (by decide) ?_
          exact me_reti hx hb hr rfl hlocks hK hP hD hS (by rw [hf2]; simp only [m_lw_2, if_neg c7, e11, if_pos c14]) dX4_logWaiting_18
  exact J2 14 0 σ _ _ hP hD hS ls (lv_sub hl [0, 1] rfl) (by omega) (by omega) (hI) (by simp only [m_lw])
