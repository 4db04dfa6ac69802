def m_chg_103 : Nat → Int32 → Int32 → Int32 → Int32 → Int32 → Int32 → Nat → me_M → Int32 × me_M
  | 0, a, b, w, x, y, v, i, s => (0, s)
  | n + 1, a, b, w, x, y, v, i, s => if nI w.toNatClampNeg ≤ (nI i) then (((s 0 17) - (nI 1), s)) else (let q111 := m_br a.toNatClampNeg s; let r111 := q111.1; let s111 := q111.2; if r111 = (-1) then (((-3), s111)) else (let s141 := me_st s111 14 (16 * r111.toNatClampNeg + b.toNatClampNeg + i) v; let s152 := me_st s141 11 r111.toNatClampNeg (s141 0 17); let s160 := me_st s152 12 r111.toNatClampNeg (nI 1); let s173 := me_st s160 15 ((s160 0 18).toNatClampNeg) (s160 0 17); let s183 := me_st s173 16 ((s173 0 18).toNatClampNeg) (nI a.toNatClampNeg); let s196 := me_st s183 17 ((s183 0 18).toNatClampNeg) (nI (b.toNatClampNeg + i)); let s207 := me_st s196 18 ((s196 0 18).toNatClampNeg) v; let s215 := me_st s207 0 18 ((s207 0 18) + (nI 1)); let s225 := me_st s215 0 17 ((s215 0 17) + (nI 1)); m_chg_103 n a b w x y (v + y) (i + 1) s225))
def m_chg_44 (a : Int32) (b : Int32) (w : Int32) (x : Int32) (y : Int32) (z : Int32) (s : me_M) : Int32 × me_M := let q45 := m_ref z (nI 1) s; let r45 := q45.1; let s45 := q45.2; if r45 = 0 then (let q57 := m_ref (s45 0 25) (nI 2) s45; let r57 := q57.1; let s57 := q57.2; if r57 = 0 then (let r66 := m_room s57; if w ≤ r66 then (let r86 := m_room s57; if w ≤ r86 then (m_chg_103 (w.toNatClampNeg + 1) a b w x y x 0 s57) else (((-2), s57))) else (let q74 := m_chk s57; let r74 := q74.1; let s74 := q74.2; if r74 = (-3) then (((-3), s74)) else (let r86 := m_room s74; if w ≤ r86 then (m_chg_103 (w.toNatClampNeg + 1) a b w x y x 0 s74) else (((-2), s74))))) else ((nI 0, s57))) else ((nI 0, s45))
def m_chg (a : Int32) (b : Int32) (w : Int32) (x : Int32) (y : Int32) (σ : me_M) : Int32 × me_M := let s2 := me_st σ 0 0 (nI 0); if (m_in a (nI 0) (nI 11)) = 0 then (m_chg_44 a b w x y (nI 1) s2) else (if (m_in b (nI 0) (nI 15)) = 0 then (m_chg_44 a b w x y (nI 1) s2) else (if w < nI 1 then (m_chg_44 a b w x y (nI 1) s2) else (if w ≤ (nI 16) - b then (m_chg_44 a b w x y (nI 0) s2) else (m_chg_44 a b w x y (nI 1) s2))))
set_option maxRecDepth 100000 in
set_option maxHeartbeats 4000000 in
theorem c_X4_change (l : Launch) (D : va_G) (cy : Nat → ClassId) (ad : Nat → Nat) (xr : va_W) (a : Int32) (b : Int32) (w : Int32) (x : Int32) (y : Int32) (σ : me_M) (hI : m_I σ) (hN : vp_in (σ 0 17) 99000) (sz : Nat) : me_Ci l yX4_change wsX4_change ({ frames := 5, cells := 0, slots := 0, locals := 115 }) D (me_T cy) (mm_W cy ad xr) [.ref (ad 0), .int a, .int b, .int w, .int x, .int y] sz σ (m_chg a b w x y σ) := by
  refine Met.ofW (cc := cX4_change) (maxL := 9) (ret := (some .int)) (by decide) rfl ?_
  intro p e st m args below meth c s₁ B hml hv
  obtain ⟨rfl, hsz, hP, hK, hD0⟩ := hv
  have hx := B.exec
  have hb := B.bytes
  have hr := B.returns
  have hts := atoms_spec (ws := wsX4_change) B.pre
  have hown : st.vm.findClass RX4 = some m.cls := findClass_of_methodNamed B.named
  have hlocks := B.notSynchronized
  have in4 : ∀ w ∈ u_ws RX4 TX4 29, w ∈ wsX4_change := by decide +kernel
  have k44 := hts (.fieldLink RX4 44 "TwinWritesModel" "frameStamp" "[I") (by decide +kernel)
  have k47 := hts (.fieldLink RX4 47 "TwinWritesModel" "isDirty" "[Z") (by decide +kernel)
  have k54 := hts (.fieldLink RX4 54 "TwinWritesModel" "frameWord" "[I") (by decide +kernel)
  have k57 := hts (.fieldLink RX4 57 "TwinWritesModel" "next" "I") (by decide +kernel)
  have k60 := hts (.fieldLink RX4 60 "TwinWritesModel" "waitNumber" "[I") (by decide +kernel)
  have k63 := hts (.fieldLink RX4 63 "TwinWritesModel" "waitPage" "[I") (by decide +kernel)
  have k66 := hts (.fieldLink RX4 66 "TwinWritesModel" "waitWhich" "[I") (by decide +kernel)
  have k69 := hts (.fieldLink RX4 69 "TwinWritesModel" "waitWord" "[I") (by decide +kernel)
  have k75 := hts (.fieldLink RX4 75 "TwinWritesModel" "thrown" "I") (by decide +kernel)
  have k78 := hts (.fieldLink RX4 78 "TwinWritesModel" "isDown" "Z") (by decide +kernel)
  have k82 := hts (.fieldLink RX4 82 "TwinWritesModel" "waiting" "I") (by decide +kernel)
  subst hsz
  have hD := hD0.self (sz := st.heap.size)
  have hA : ∀ q : Nat, st.heap.size ≤ q → va_A ((mm_W cy ad xr) σ) st.heap.size q := fun q h => Or.inr h
  have hS : va_S (va_A ((mm_W cy ad xr) σ) st.heap.size) st.heap st.heap [] := va_S.rf
  generalize va_A ((mm_W cy ad xr) σ) st.heap.size = A at hD hA hS ⊢
  have hl := lv_entry ([.ref (ad 0), .int a, .int b, .int w, .int x, .int y]) (n := 9) (Nat.le_of_ble_eq_true rfl)
  rw [lg_entry_eq]
  generalize (lg_sl ([.ref (ad 0), .int a, .int b, .int w, .int x, .int y]) ++ List.replicate (9 - (lg_sl ([.ref (ad 0), .int a, .int b, .int w, .int x, .int y])).length) Slot.unset).toArray = ls at hl ⊢
  have hl : lv_has ls 9 [(0, .ref (ad 0)), (1, .int a), (2, .int b), (3, .int w), (4, .int x), (5, .int y)] := hl
  refine lv_aload_n hx hb dX4_change_0 rfl (lv_at hl 0 rfl) ?_
  refine lv_iconst (v := nI 0) hx hb dX4_change_1 (by decide) ?_
  refine me_put (ty := .int) (ci := 4) (C := RX4) (T := TX4) (M := 29) hx hb hts in4 tyX4 tyX4_ok nmX4 hown hK hP hD hS 0 (by omega) (mm_0 cy ad _) rfl 0 (by decide) k75 (fun _ h9 => h9) rfl (by decide +kernel) rfl rfl (Nat.le_of_ble_eq_true rfl) (mm_0 cy ad _) dX4_change_2 (fun s2 H locs e2 hP hD hS => ?_)
  have J44 : ∀ (z : Int32) (s : me_M) (H : Heap) (locs : List Loc) (hP : va_P D vwCl ((mm_W cy ad xr) s) H) (hD : va_D A ((mm_W cy ad xr) s)) (hS : va_S A st.heap H locs) (ls : Array Slot) (hl : lv_has ls 9 [(0, .ref (ad 0)), (1, .int a), (2, .int b), (3, .int w), (4, .int x), (5, .int y)]), ∀ (h0 : s 0 0 = nI 0), ∀ (hI : m_I s), ∀ (hz : z = nI 1 ∨ (z = nI 0 ∧ vp_in a 12 ∧ vp_in b 16 ∧ vp_in w 17 ∧ 1 ≤ w.toNatClampNeg ∧ b.toNatClampNeg + w.toNatClampNeg ≤ 16)), ∀ (hnx : vp_in (s 0 17) 99000), m_chg a b w x y σ = m_chg_44 a b w x y z s → W p l e (headSpec wsX4_change ({ frames := 5, cells := 0, slots := 0, locals := 115 })).room st m ([.ref (ad 0), .int a, .int b, .int w, .int x, .int y] : List Value).toArray below meth c H locs 0 0 (MQ below (va_Qi (fun r σ' => (r, σ') = m_chg a b w x y σ) (me_B D (me_T cy) A (mm_W cy ad xr)) A) ([.ref (ad 0), .int a, .int b, .int w, .int x, .int y] : List Value).toArray st 0 0 A) (F0 m 44 ls [.int z, .ref (ad 0)]) := by
    intro z s H locs hP hD hS ls hl h0 hI hz hnx hf44
    refine lv_iconst (v := nI 1) hx hb dX4_change_44 (by decide) ?_
    refine me_calli (f := m_ref z (nI 1) s) (w := (mm_W cy ad xr)) (σ := s) (As := [.int z, .int (nI 1)]) (rest := []) ⟨hx, hb, hml, hown, hts⟩ (fun sz => c_X4_refuses l D cy ad xr z (nI 1) s  sz) (cwV 2 hts gX4_change_X4_refuses rfl rfl rfl (by decide +kernel) ⟨Nat.le_of_ble_eq_true rfl, Nat.le_of_ble_eq_true rfl⟩) (va_recv hK hP (ci := 4) (q0 := 0) rfl (me_get (by omega) (mm_0 cy ad _))) hK hP hD hS hA rfl hl.1 rfl (Nat.le_of_ble_eq_true rfl) dX4_change_45 ⟨Nat.zero_le _, Nat.zero_le _⟩ (fun r45 s45 H locs e45 hP hD hS => ?_)
    refine lv_if_ne (tgt := 63) hx hb dX4_change_48 (by decide) (fun c48 => ?_) (fun c48 => ?_)
    ·
      refine lv_iconst (v := nI 0) hx hb dX4_change_63 (by decide) ?_
      exact me_reti hx hb hr rfl hlocks hK hP hD hS (by first | (rw [hf44]; simp only [m_chg_44, e45, if_neg c48]; done) | contradiction | exact absurd (by rw [← e86, e66]; exact c70) c90) dX4_change_64
    ·
      have hB := pu_or e45 h0 (by decide) c48 hz
      have z45 := (pu_ref0 e45 h0 (by decide) c48).2
      refine lv_aload_n hx hb dX4_change_51 rfl (lv_at hl 0 rfl) ?_
      refine lv_aload_n hx hb dX4_change_52 rfl (lv_at hl 0 rfl) ?_
      refine va_get (D := D) (ci := 4) (v := .int (s45 0 25)) (C := RX4) (T := TX4) (N := 29) hx hb hts in4 hown hK hP 0 (me_get (by omega) (mm_0 cy ad _)) rfl 25 (by decide) k78 (fun _ h9 => h9) rfl dX4_change_53 ?_
      refine lv_iconst (v := nI 2) hx hb dX4_change_56 (by decide) ?_
      refine me_calli (f := m_ref (s45 0 25) (nI 2) s45) (w := (mm_W cy ad xr)) (σ := s45) (As := [.int (s45 0 25), .int (nI 2)]) (rest := []) ⟨hx, hb, hml, hown, hts⟩ (fun sz => c_X4_refuses l D cy ad xr (s45 0 25) (nI 2) s45  sz) (cwV 2 hts gX4_change_X4_refuses rfl rfl rfl (by decide +kernel) ⟨Nat.le_of_ble_eq_true rfl, Nat.le_of_ble_eq_true rfl⟩) (va_recv hK hP (ci := 4) (q0 := 0) rfl (me_get (by omega) (mm_0 cy ad _))) hK hP hD hS hA rfl hl.1 rfl (Nat.le_of_ble_eq_true rfl) dX4_change_57 ⟨Nat.zero_le _, Nat.zero_le _⟩ (fun r57 s57 H locs e57 hP hD hS => ?_)
      refine lv_if_eq (tgt := 65) hx hb dX4_change_60 (by decide) (fun c60 => ?_) (fun c60 => ?_)
      ·
        have z57 := (pu_ref0 e57 (by rw [z45]; exact h0) (by decide) c60).2
        have hI57 : m_I s57 := by rw [z57, z45]; exact hI
        have hN57 : vp_in (s57 0 17) 99000 := by rw [z57, z45]; exact hnx
        refine lv_aload_n hx hb dX4_change_65 rfl (lv_at hl 0 rfl) ?_
        refine me_callr (f := m_room s57) (w := (mm_W cy ad xr)) (σ := s57) (As := []) (rest := []) ⟨hx, hb, hml, hown, hts⟩ (fun sz => c_X4_room l D cy ad xr  s57  sz) (cwV 0 hts gX4_change_X4_room rfl rfl rfl (by decide +kernel) ⟨Nat.le_of_ble_eq_true rfl, Nat.le_of_ble_eq_true rfl⟩) (va_recv hK hP (ci := 4) (q0 := 0) rfl (me_get (by omega) (mm_0 cy ad _))) hK hP hD hS hA rfl hl.1 rfl (Nat.le_of_ble_eq_true rfl) dX4_change_66 ⟨Nat.zero_le _, Nat.zero_le _⟩ (fun r66 H locs e66 hP hD hS => ?_)
        refine lv_iload_n hx hb dX4_change_69 rfl (lv_at hl 3 rfl) ?_
        refine lv_icmp_ge (tgt := 85) hx hb dX4_change_70 (by decide) (fun c70 => ?_) (fun c70 => ?_)
        ·
          refine lv_aload_n hx hb dX4_change_85 rfl (lv_at hl 0 rfl) ?_
          refine me_callr (f := m_room s57) (w := (mm_W cy ad xr)) (σ := s57) (As := []) (rest := []) ⟨hx, hb, hml, hown, hts⟩ (fun sz => c_X4_room l D cy ad xr  s57  sz) (cwV 0 hts gX4_change_X4_room rfl rfl rfl (by decide +kernel) ⟨Nat.le_of_ble_eq_true rfl, Nat.le_of_ble_eq_true rfl⟩) (va_recv hK hP (ci := 4) (q0 := 0) rfl (me_get (by omega) (mm_0 cy ad _))) hK hP hD hS hA rfl hl.1 rfl (Nat.le_of_ble_eq_true rfl) dX4_change_86 ⟨Nat.zero_le _, Nat.zero_le _⟩ (fun r86 H locs e86 hP hD hS => ?_)
          refine lv_iload_n hx hb dX4_change_89 rfl (lv_at hl 3 rfl) ?_
          refine lv_icmp_ge (tgt := 96) hx hb dX4_change_90 (by decide) (fun c90 => ?_) (fun c90 => ?_)
          ·
            have hR : m_I s57 ∧ vp_in (s57 0 17) 99000 ∧ (s57 0 18).toNatClampNeg + w.toNatClampNeg ≤ 12 := by first | exact pu_mroom hI57 hN57 e86 hB.2.2.1 hB.2.2.2.1 c90 | exact pu_mroom gC.1 (by rw [gC.2.1]; exact hN57) e86 hB.2.2.1 hB.2.2.2.1 c90
            refine lv_iload hx hb dX4_change_96 (lv_at hl 4 rfl) ?_
            refine lv_istore (lv' := [(6, .int x), (0, .ref (ad 0)), (1, .int a), (2, .int b), (3, .int w), (4, .int x), (5, .int y)]) hx hb dX4_change_98 hl (by decide) rfl (fun ls hl => ?_)
            refine lv_iconst (v := nI 0) hx hb dX4_change_100 (by decide) ?_
            refine lv_istore (lv' := [(7, .int (nI 0)), (6, .int x), (0, .ref (ad 0)), (1, .int a), (2, .int b), (3, .int w), (4, .int x), (5, .int y)]) hx hb dX4_change_101 hl (by decide) rfl (fun ls hl => ?_)
            have J103 : ∀ (n : Nat) (v : Int32) (i : Nat) (s : me_M) (H : Heap) (locs : List Loc) (hP : va_P D vwCl ((mm_W cy ad xr) s) H) (hD : va_D A ((mm_W cy ad xr) s)) (hS : va_S A st.heap H locs) (ls : Array Slot) (hl : lv_has ls 9 [(7, .int (nI i)), (6, .int v), (0, .ref (ad 0)), (1, .int a), (2, .int b), (3, .int w), (4, .int x), (5, .int y)]), ∀ (hi : i ≤ w.toNatClampNeg), ∀ (hn : w.toNatClampNeg + 1 ≤ i + n), ∀ (hI : m_I s), ∀ (hwt : (s 0 18).toNatClampNeg + w.toNatClampNeg ≤ 12 + i), ∀ (hnx : (s 0 17).toNatClampNeg < 99000 + i), m_chg a b w x y σ = m_chg_103 n a b w x y v i s → W p l e (headSpec wsX4_change ({ frames := 5, cells := 0, slots := 0, locals := 115 })).room st m ([.ref (ad 0), .int a, .int b, .int w, .int x, .int y] : List Value).toArray below meth c H locs 0 0 (MQ below (va_Qi (fun r σ' => (r, σ') = m_chg a b w x y σ) (me_B D (me_T cy) A (mm_W cy ad xr)) A) ([.ref (ad 0), .int a, .int b, .int w, .int x, .int y] : List Value).toArray st 0 0 A) (F0 m 103 ls []) := by
              intro n
              induction n with
              | zero => intro v i s H locs hP hD hS ls hl hi hn hI hwt hnx hf103; exfalso; omega
              | succ n ih =>
                intro v i s H locs hP hD hS ls hl hi hn hI hwt hnx hf103
                refine lv_iload hx hb dX4_change_103 (lv_at hl 0 rfl) ?_
                refine lv_iload_n hx hb dX4_change_105 rfl (lv_at hl 5 rfl) ?_
                have b105 := me_inb hB.2.2.1
                refine me_top (me_ine hB.2.2.1) ?_
                refine lv_icmp_ge (tgt := 241) hx hb dX4_change_106 (by decide) (fun c106 => ?_) (fun c106 => ?_)
                ·
                  try have h106 := (nI_leI (by omega) (by omega)).mp c106
                  refine lv_aload_n hx hb dX4_change_241 rfl (lv_at hl 2 rfl) ?_
                  refine va_get (D := D) (ci := 4) (v := .int (s 0 17)) (C := RX4) (T := TX4) (N := 29) hx hb hts in4 hown hK hP 0 (me_get (by omega) (mm_0 cy ad _)) rfl 17 (by decide) k57 (fun _ h9 => h9) rfl dX4_change_242 ?_
                  refine lv_iconst (v := nI 1) hx hb dX4_change_245 (by decide) ?_
                  refine lv_isub hx hb dX4_change_246 ?_
                  exact me_reti hx hb hr rfl hlocks hK hP hD hS (by first | (rw [hf103]; simp only [m_chg_103, if_pos c106]; done) | contradiction | exact absurd (by rw [← e86, e66]; exact c70) c90) dX4_change_247
                ·
                  try have h106 := (not_congr (nI_leI (by omega) (by omega))).mp c106
                  refine lv_aload_n hx hb dX4_change_109 rfl (lv_at hl 2 rfl) ?_
                  refine lv_iload_n hx hb dX4_change_110 rfl (lv_at hl 3 rfl) ?_
                  have b110 := me_inb hB.1
                  refine me_top (me_ine hB.1) ?_
                  refine me_calli (f := m_br a.toNatClampNeg s) (w := (mm_W cy ad xr)) (σ := s) (As := [.int (nI a.toNatClampNeg)]) (rest := []) ⟨hx, hb, hml, hown, hts⟩ (fun sz => c_X4_bring l D cy ad xr a.toNatClampNeg s (by omega) (hI) sz) (cwV 1 hts gX4_change_X4_bring rfl rfl rfl (by decide +kernel) ⟨Nat.le_of_ble_eq_true rfl, Nat.le_of_ble_eq_true rfl⟩) (va_recv hK hP (ci := 4) (q0 := 0) rfl (me_get (by omega) (mm_0 cy ad _))) hK hP hD hS hA rfl hl.1 rfl (Nat.le_of_ble_eq_true rfl) dX4_change_111 ⟨Nat.zero_le _, Nat.zero_le _⟩ (fun r111 s111 H locs e111 hP hD hS => ?_)
                  have gB := pu_mbr e111 b110 hI
                  refine lv_istore (lv' := [(8, .int r111), (7, .int (nI i)), (6, .int v), (0, .ref (ad 0)), (1, .int a), (2, .int b), (3, .int w), (4, .int x), (5, .int y)]) hx hb dX4_change_114 hl (by decide) rfl (fun ls hl => ?_)
                  refine lv_iload hx hb dX4_change_116 (lv_at hl 0 rfl) ?_
                  refine lv_iconst (v := (-1)) hx hb dX4_change_118 (by decide) ?_
                  refine lv_icmp_ne (tgt := 125) hx hb dX4_change_119 (by decide) (fun c119 => ?_) (fun c119 => ?_)
                  ·
                    refine lv_aload_n hx hb dX4_change_125 rfl (lv_at hl 3 rfl) ?_
                    refine va_get (D := D) (ci := 4) (v := .ref (ad 14)) (C := RX4) (T := TX4) (N := 29) hx hb hts in4 hown hK hP 0 (me_get (by omega) (mm_0 cy ad _)) rfl 15 (by decide) k54 (fun _ h9 => h9) rfl dX4_change_126 ?_
                    refine lv_bipush (v := nI 16) hx hb dX4_change_129 (by decide) ?_
                    refine lv_iload hx hb dX4_change_131 (lv_at hl 0 rfl) ?_
                    have b131 := me_inb (gB.2.2 c119).1
                    refine me_top (me_ine (gB.2.2 c119).1) ?_
                    refine lv_imul hx hb dX4_change_133 ?_
                    refine me_top (pk_mul _ _) ?_
                    refine lv_iload_n hx hb dX4_change_134 rfl (lv_at hl 5 rfl) ?_
                    have b134 := me_inb hB.2.1
                    refine me_top (me_ine hB.2.1) ?_
                    refine lv_iadd hx hb dX4_change_135 ?_
                    refine me_top (nI_add _ _) ?_
                    refine lv_iload hx hb dX4_change_136 (lv_at hl 1 rfl) ?_
                    refine lv_iadd hx hb dX4_change_138 ?_
                    refine me_top (nI_add _ _) ?_
                    refine lv_iload hx hb dX4_change_139 (lv_at hl 2 rfl) ?_
                    refine me_iast hx hb hK hP hD hS 14 0 (by omega) (fun f => mm_14 cy ad f) rfl (16 * r111.toNatClampNeg + b.toNatClampNeg + i) rfl (by omega) (by decide) dX4_change_141 (fun s141 H locs e141 hP hD hS => ?_)
                    refine lv_aload_n hx hb dX4_change_142 rfl (lv_at hl 3 rfl) ?_
                    refine va_get (D := D) (ci := 4) (v := .ref (ad 11)) (C := RX4) (T := TX4) (N := 29) hx hb hts in4 hown hK hP 0 (me_get (by omega) (mm_0 cy ad _)) rfl 12 (by decide) k44 (fun _ h9 => h9) rfl dX4_change_143 ?_
                    refine lv_iload hx hb dX4_change_146 (lv_at hl 0 rfl) ?_
                    refine lv_aload_n hx hb dX4_change_148 rfl (lv_at hl 3 rfl) ?_
                    refine va_get (D := D) (ci := 4) (v := .int (s141 0 17)) (C := RX4) (T := TX4) (N := 29) hx hb hts in4 hown hK hP 0 (me_get (by omega) (mm_0 cy ad _)) rfl 17 (by decide) k57 (fun _ h9 => h9) rfl dX4_change_149 ?_
                    have v152 : vp_in r111 4 := (gB.2.2 c119).1
                    have b152 := me_inb v152
                    refine me_iast hx hb hK hP hD hS 11 0 (by omega) (fun f => mm_11 cy ad f) rfl r111.toNatClampNeg (me_ine v152) (by omega) (by decide) dX4_change_152 (fun s152 H locs e152 hP hD hS => ?_)
                    refine lv_aload_n hx hb dX4_change_153 rfl (lv_at hl 3 rfl) ?_
                    refine va_get (D := D) (ci := 4) (v := .ref (ad 12)) (C := RX4) (T := TX4) (N := 29) hx hb hts in4 hown hK hP 0 (me_get (by omega) (mm_0 cy ad _)) rfl 13 (by decide) k47 (fun _ h9 => h9) rfl dX4_change_154 ?_
                    refine lv_iload hx hb dX4_change_157 (lv_at hl 0 rfl) ?_
                    refine lv_iconst (v := nI 1) hx hb dX4_change_159 (by decide) ?_
                    have v160 : vp_in r111 4 := (gB.2.2 c119).1
                    have b160 := me_inb v160
                    refine me_zast hx hb hK hP hD hS 12 1 (by omega) (fun f => mm_12 cy ad f) rfl r111.toNatClampNeg (me_ine v160) (by omega) (by decide) (by decide) dX4_change_160 (fun s160 H locs e160 hP hD hS => ?_)
                    refine lv_aload_n hx hb dX4_change_161 rfl (lv_at hl 3 rfl) ?_
                    refine va_get (D := D) (ci := 4) (v := .ref (ad 15)) (C := RX4) (T := TX4) (N := 29) hx hb hts in4 hown hK hP 0 (me_get (by omega) (mm_0 cy ad _)) rfl 19 (by decide) k60 (fun _ h9 => h9) rfl dX4_change_162 ?_
                    refine lv_aload_n hx hb dX4_change_165 rfl (lv_at hl 3 rfl) ?_
                    refine va_get (D := D) (ci := 4) (v := .int (s160 0 18)) (C := RX4) (T := TX4) (N := 29) hx hb hts in4 hown hK hP 0 (me_get (by omega) (mm_0 cy ad _)) rfl 18 (by decide) k82 (fun _ h9 => h9) rfl dX4_change_166 ?_
                    have w166 : vp_in (s160 0 18) 13 := by rw [← e160, ← e152, ← e141, me_st_c _ _ _ (by decide), me_st_c _ _ _ (by decide), me_st_c _ _ _ (by decide)]; exact gB.1.1
                    have b166 := me_inb w166
                    have f166 : (s160 0 18) = s111 0 18 := by rw [← e160, ← e152, ← e141, me_st_c _ _ _ (by decide), me_st_c _ _ _ (by decide), me_st_c _ _ _ (by decide)]
                    refine me_top (me_ine w166) ?_
                    refine lv_aload_n hx hb dX4_change_169 rfl (lv_at hl 3 rfl) ?_
                    refine va_get (D := D) (ci := 4) (v := .int (s160 0 17)) (C := RX4) (T := TX4) (N := 29) hx hb hts in4 hown hK hP 0 (me_get (by omega) (mm_0 cy ad _)) rfl 17 (by decide) k57 (fun _ h9 => h9) rfl dX4_change_170 ?_
                    refine me_iast hx hb hK hP hD hS 15 0 (by omega) (fun f => mm_15 cy ad f) rfl ((s160 0 18).toNatClampNeg) rfl (by omega) (by decide) dX4_change_173 (fun s173 H locs e173 hP hD hS => ?_)
                    refine lv_aload_n hx hb dX4_change_174 rfl (lv_at hl 3 rfl) ?_
                    refine va_get (D := D) (ci := 4) (v := .ref (ad 16)) (C := RX4) (T := TX4) (N := 29) hx hb hts in4 hown hK hP 0 (me_get (by omega) (mm_0 cy ad _)) rfl 20 (by decide) k63 (fun _ h9 => h9) rfl dX4_change_175 ?_
                    refine lv_aload_n hx hb dX4_change_178 rfl (lv_at hl 3 rfl) ?_
                    refine va_get (D := D) (ci := 4) (v := .int (s173 0 18)) (C := RX4) (T := TX4) (N := 29) hx hb hts in4 hown hK hP 0 (me_get (by omega) (mm_0 cy ad _)) rfl 18 (by decide) k82 (fun _ h9 => h9) rfl dX4_change_179 ?_
                    have w179 : vp_in (s173 0 18) 13 := by rw [← e173, me_st_c _ _ _ (by decide)]; exact w166
                    have b179 := me_inb w179
                    have f179 : (s173 0 18) = s111 0 18 := by rw [← e173, me_st_c _ _ _ (by decide)]; exact f166
                    refine me_top (me_ine w179) ?_
                    refine lv_iload_n hx hb dX4_change_182 rfl (lv_at hl 4 rfl) ?_
                    have b182 := me_inb hB.1
                    refine me_top (me_ine hB.1) ?_
                    refine me_iast hx hb hK hP hD hS 16 0 (by omega) (fun f => mm_16 cy ad f) rfl ((s173 0 18).toNatClampNeg) rfl (by omega) (by decide) dX4_change_183 (fun s183 H locs e183 hP hD hS => ?_)
                    refine lv_aload_n hx hb dX4_change_184 rfl (lv_at hl 3 rfl) ?_
                    refine va_get (D := D) (ci := 4) (v := .ref (ad 17)) (C := RX4) (T := TX4) (N := 29) hx hb hts in4 hown hK hP 0 (me_get (by omega) (mm_0 cy ad _)) rfl 21 (by decide) k66 (fun _ h9 => h9) rfl dX4_change_185 ?_
                    refine lv_aload_n hx hb dX4_change_188 rfl (lv_at hl 3 rfl) ?_
                    refine va_get (D := D) (ci := 4) (v := .int (s183 0 18)) (C := RX4) (T := TX4) (N := 29) hx hb hts in4 hown hK hP 0 (me_get (by omega) (mm_0 cy ad _)) rfl 18 (by decide) k82 (fun _ h9 => h9) rfl dX4_change_189 ?_
                    have w189 : vp_in (s183 0 18) 13 := by rw [← e183, me_st_c _ _ _ (by decide)]; exact w179
                    have b189 := me_inb w189
                    have f189 : (s183 0 18) = s111 0 18 := by rw [← e183, me_st_c _ _ _ (by decide)]; exact f179
                    refine me_top (me_ine w189) ?_
                    refine lv_iload_n hx hb dX4_change_192 rfl (lv_at hl 5 rfl) ?_
                    have b192 := me_inb hB.2.1
                    refine me_top (me_ine hB.2.1) ?_
                    refine lv_iload hx hb dX4_change_193 (lv_at hl 1 rfl) ?_
                    refine lv_iadd hx hb dX4_change_195 ?_
                    refine me_top (nI_add _ _) ?_
                    refine me_iast hx hb hK hP hD hS 17 0 (by omega) (fun f => mm_17 cy ad f) rfl ((s183 0 18).toNatClampNeg) rfl (by omega) (by decide) dX4_change_196 (fun s196 H locs e196 hP hD hS => ?_)
                    refine lv_aload_n hx hb dX4_change_197 rfl (lv_at hl 3 rfl) ?_
                    refine va_get (D := D) (ci := 4) (v := .ref (ad 18)) (C := RX4) (T := TX4) (N := 29) hx hb hts in4 hown hK hP 0 (me_get (by omega) (mm_0 cy ad _)) rfl 22 (by decide) k69 (fun _ h9 => h9) rfl dX4_change_198 ?_
                    refine lv_aload_n hx hb dX4_change_201 rfl (lv_at hl 3 rfl) ?_
                    refine va_get (D := D) (ci := 4) (v := .int (s196 0 18)) (C := RX4) (T := TX4) (N := 29) hx hb hts in4 hown hK hP 0 (me_get (by omega) (mm_0 cy ad _)) rfl 18 (by decide) k82 (fun _ h9 => h9) rfl dX4_change_202 ?_
                    have w202 : vp_in (s196 0 18) 13 := by rw [← e196, me_st_c _ _ _ (by decide)]; exact w189
                    have b202 := me_inb w202
                    have f202 : (s196 0 18) = s111 0 18 := by rw [← e196, me_st_c _ _ _ (by decide)]; exact f189
                    refine me_top (me_ine w202) ?_
                    refine lv_iload hx hb dX4_change_205 (lv_at hl 2 rfl) ?_
                    refine me_iast hx hb hK hP hD hS 18 0 (by omega) (fun f => mm_18 cy ad f) rfl ((s196 0 18).toNatClampNeg) rfl (by omega) (by decide) dX4_change_207 (fun s207 H locs e207 hP hD hS => ?_)
                    refine lv_aload_n hx hb dX4_change_208 rfl (lv_at hl 3 rfl) ?_
                    refine lv_dup hx hb dX4_change_209 rfl ?_
                    refine va_get (D := D) (ci := 4) (v := .int (s207 0 18)) (C := RX4) (T := TX4) (N := 29) hx hb hts in4 hown hK hP 0 (me_get (by omega) (mm_0 cy ad _)) rfl 18 (by decide) k82 (fun _ h9 => h9) rfl dX4_change_210 ?_
                    refine lv_iconst (v := nI 1) hx hb dX4_change_213 (by decide) ?_
                    refine lv_iadd hx hb dX4_change_214 ?_
                    refine me_put (ty := .int) (ci := 4) (C := RX4) (T := TX4) (M := 29) hx hb hts in4 tyX4 tyX4_ok nmX4 hown hK hP hD hS 0 (by omega) (mm_0 cy ad _) rfl 18 (by decide) k82 (fun _ h9 => h9) rfl (by decide +kernel) rfl rfl (Nat.le_of_ble_eq_true rfl) (mm_0 cy ad _) dX4_change_215 (fun s215 H locs e215 hP hD hS => ?_)
                    refine lv_aload_n hx hb dX4_change_218 rfl (lv_at hl 3 rfl) ?_
                    refine lv_dup hx hb dX4_change_219 rfl ?_
                    refine va_get (D := D) (ci := 4) (v := .int (s215 0 17)) (C := RX4) (T := TX4) (N := 29) hx hb hts in4 hown hK hP 0 (me_get (by omega) (mm_0 cy ad _)) rfl 17 (by decide) k57 (fun _ h9 => h9) rfl dX4_change_220 ?_
                    refine lv_iconst (v := nI 1) hx hb dX4_change_223 (by decide) ?_
                    refine lv_iadd hx hb dX4_change_224 ?_
                    refine me_put (ty := .int) (ci := 4) (C := RX4) (T := TX4) (M := 29) hx hb hts in4 tyX4 tyX4_ok nmX4 hown hK hP hD hS 0 (by omega) (mm_0 cy ad _) rfl 17 (by decide) k57 (fun _ h9 => h9) rfl (by decide +kernel) rfl rfl (Nat.le_of_ble_eq_true rfl) (mm_0 cy ad _) dX4_change_225 (fun s225 H locs e225 hP hD hS => ?_)
                    have gW : (s111 0 18).toNatClampNeg + w.toNatClampNeg ≤ 12 + i := by rcases pu_mbr_w e111 hI c119 with q | q; (rw [q]; exact hwt); (rw [q, nI_clamp (by decide)]; omega)
                    have gN : (s111 0 17).toNatClampNeg < 99000 + i := by rw [gB.2.1.1]; exact hnx
                    have x183 : me_st s173 16 (s160 0 18).toNatClampNeg (nI a.toNatClampNeg) = s183 := by rw [f166, ← f179]; exact e183
                    have x196 : me_st s183 17 (s160 0 18).toNatClampNeg (nI (b.toNatClampNeg + i)) = s196 := by rw [f166, ← f189]; exact e196
                    have x207 : me_st s196 18 (s160 0 18).toNatClampNeg v = s207 := by rw [f166, ← f202]; exact e207
                    have gS := pu_mcst e141 e152 e160 e173 x183 x196 x207 e215 e225 (by rw [(gB.2.2 c119).2]; exact vp_in_nI b110 (by decide)) b110 (by omega) (by omega) (by omega) gB.1
                    refine lv_iload hx hb dX4_change_228 (lv_at hl 2 rfl) ?_
                    refine lv_iload hx hb dX4_change_230 (lv_at hl 8 rfl) ?_
                    refine lv_iadd hx hb dX4_change_232 ?_
                    refine lv_istore (lv' := [(6, .int (v + y)), (8, .int r111), (7, .int (nI i)), (0, .ref (ad 0)), (1, .int a), (2, .int b), (3, .int w), (4, .int x), (5, .int y)]) hx hb dX4_change_233 hl (by decide) rfl (fun ls hl => ?_)
                    refine lv_iinc (v := nI (i + 1)) (lv' := [(7, .int (nI (i + 1))), (6, .int (v + y)), (8, .int r111), (0, .ref (ad 0)), (1, .int a), (2, .int b), (3, .int w), (4, .int x), (5, .int y)]) hx hb dX4_change_235 hl (k := 2) rfl (me_inc _) (by decide) rfl (fun ls hl => ?_)
                    refine lv_goto (tgt := 103) hx hb dX4_change_238 (by decide) ?_
                    exact ih (v + y) (i + 1) s225 _ _ hP hD hS ls (lv_sub hl [0, 1, 3, 4, 5, 6, 7, 8] rfl) (by omega) (by omega) (gS.1) (by have := gS.2.1; omega) (by have := gS.2.2; omega) (by rw [hf103]; simp only [m_chg_103, if_neg c106, e111, if_neg c119, e141, e152, e160, e173, e183, e196, e207, e215, e225])
                  ·
                    refine lv_bipush (v := (-3)) hx hb dX4_change_122 (by decide) ?_
                    exact me_reti hx hb hr rfl hlocks hK hP hD hS (by first | (rw [hf103]; simp only [m_chg_103, if_neg c106, e111, if_pos c119]; done) | contradiction | exact absurd (by rw [← e86, e66]; exact c70) c90) dX4_change_124
            exact J103 (w.toNatClampNeg + 1) x 0 s57 _ _ hP hD hS ls (lv_sub hl [0, 1, 2, 3, 4, 5, 6, 7] rfl) (by omega) (by omega) (hR.1) (by have := hR.2.2; omega) (me_inb hR.2.1) (by rw [hf44]; simp only [m_chg_44, e45, if_pos c48, e57, if_pos c60, e66, if_pos c70, e86, if_pos c90])
          ·
            refine lv_bipush (v := (-2)) hx hb dX4_change_93 (by decide) ?_
            exact me_reti hx hb hr rfl hlocks hK hP hD hS (by first | (rw [hf44]; simp only [m_chg_44, e45, if_pos c48, e57, if_pos c60, e66, if_pos c70, e86, if_neg c90]; done) | contradiction | exact absurd (by rw [← e86, e66]; exact c70) c90) dX4_change_95
        ·
          refine lv_aload_n hx hb dX4_change_73 rfl (lv_at hl 0 rfl) ?_
          refine me_calli (f := m_chk s57) (w := (mm_W cy ad xr)) (σ := s57) (As := []) (rest := []) ⟨hx, hb, hml, hown, hts⟩ (fun sz => c_X4_check l D cy ad xr  s57 (hI57) sz) (cwV 0 hts gX4_change_X4_check rfl rfl rfl (by decide +kernel) ⟨Nat.le_of_ble_eq_true rfl, Nat.le_of_ble_eq_true rfl⟩) (va_recv hK hP (ci := 4) (q0 := 0) rfl (me_get (by omega) (mm_0 cy ad _))) hK hP hD hS hA rfl hl.1 rfl (Nat.le_of_ble_eq_true rfl) dX4_change_74 ⟨Nat.zero_le _, Nat.zero_le _⟩ (fun r74 s74 H locs e74 hP hD hS => ?_)
          have gC := pu_mchk e74 hI57
          refine lv_bipush (v := (-3)) hx hb dX4_change_77 (by decide) ?_
          refine lv_icmp_ne (tgt := 85) hx hb dX4_change_79 (by decide) (fun c79 => ?_) (fun c79 => ?_)
          ·
            refine lv_aload_n hx hb dX4_change_85 rfl (lv_at hl 0 rfl) ?_
            refine me_callr (f := m_room s74) (w := (mm_W cy ad xr)) (σ := s74) (As := []) (rest := []) ⟨hx, hb, hml, hown, hts⟩ (fun sz => c_X4_room l D cy ad xr  s74  sz) (cwV 0 hts gX4_change_X4_room rfl rfl rfl (by decide +kernel) ⟨Nat.le_of_ble_eq_true rfl, Nat.le_of_ble_eq_true rfl⟩) (va_recv hK hP (ci := 4) (q0 := 0) rfl (me_get (by omega) (mm_0 cy ad _))) hK hP hD hS hA rfl hl.1 rfl (Nat.le_of_ble_eq_true rfl) dX4_change_86 ⟨Nat.zero_le _, Nat.zero_le _⟩ (fun r86 H locs e86 hP hD hS => ?_)
            refine lv_iload_n hx hb dX4_change_89 rfl (lv_at hl 3 rfl) ?_
            refine lv_icmp_ge (tgt := 96) hx hb dX4_change_90 (by decide) (fun c90 => ?_) (fun c90 => ?_)
            ·
              have hR : m_I s74 ∧ vp_in (s74 0 17) 99000 ∧ (s74 0 18).toNatClampNeg + w.toNatClampNeg ≤ 12 := by first | exact pu_mroom hI57 hN57 e86 hB.2.2.1 hB.2.2.2.1 c90 | exact pu_mroom gC.1 (by rw [gC.2.1]; exact hN57) e86 hB.2.2.1 hB.2.2.2.1 c90
              refine lv_iload hx hb dX4_change_96 (lv_at hl 4 rfl) ?_
              refine lv_istore (lv' := [(6, .int x), (0, .ref (ad 0)), (1, .int a), (2, .int b), (3, .int w), (4, .int x), (5, .int y)]) hx hb dX4_change_98 hl (by decide) rfl (fun ls hl => ?_)
              refine lv_iconst (v := nI 0) hx hb dX4_change_100 (by decide) ?_
              refine lv_istore (lv' := [(7, .int (nI 0)), (6, .int x), (0, .ref (ad 0)), (1, .int a), (2, .int b), (3, .int w), (4, .int x), (5, .int y)]) hx hb dX4_change_101 hl (by decide) rfl (fun ls hl => ?_)
              have J103 : ∀ (n : Nat) (v : Int32) (i : Nat) (s : me_M) (H : Heap) (locs : List Loc) (hP : va_P D vwCl ((mm_W cy ad xr) s) H) (hD : va_D A ((mm_W cy ad xr) s)) (hS : va_S A st.heap H locs) (ls : Array Slot) (hl : lv_has ls 9 [(7, .int (nI i)), (6, .int v), (0, .ref (ad 0)), (1, .int a), (2, .int b), (3, .int w), (4, .int x), (5, .int y)]), ∀ (hi : i ≤ w.toNatClampNeg), ∀ (hn : w.toNatClampNeg + 1 ≤ i + n), ∀ (hI : m_I s), ∀ (hwt : (s 0 18).toNatClampNeg + w.toNatClampNeg ≤ 12 + i), ∀ (hnx : (s 0 17).toNatClampNeg < 99000 + i), m_chg a b w x y σ = m_chg_103 n a b w x y v i s → W p l e (headSpec wsX4_change ({ frames := 5, cells := 0, slots := 0, locals := 115 })).room st m ([.ref (ad 0), .int a, .int b, .int w, .int x, .int y] : List Value).toArray below meth c H locs 0 0 (MQ below (va_Qi (fun r σ' => (r, σ') = m_chg a b w x y σ) (me_B D (me_T cy) A (mm_W cy ad xr)) A) ([.ref (ad 0), .int a, .int b, .int w, .int x, .int y] : List Value).toArray st 0 0 A) (F0 m 103 ls []) := by
                intro n
                induction n with
                | zero => intro v i s H locs hP hD hS ls hl hi hn hI hwt hnx hf103; exfalso; omega
                | succ n ih =>
                  intro v i s H locs hP hD hS ls hl hi hn hI hwt hnx hf103
                  refine lv_iload hx hb dX4_change_103 (lv_at hl 0 rfl) ?_
                  refine lv_iload_n hx hb dX4_change_105 rfl (lv_at hl 5 rfl) ?_
                  have b105 := me_inb hB.2.2.1
                  refine me_top (me_ine hB.2.2.1) ?_
                  refine lv_icmp_ge (tgt := 241) hx hb dX4_change_106 (by decide) (fun c106 => ?_) (fun c106 => ?_)
                  ·
                    try have h106 := (nI_leI (by omega) (by omega)).mp c106
                    refine lv_aload_n hx hb dX4_change_241 rfl (lv_at hl 2 rfl) ?_
                    refine va_get (D := D) (ci := 4) (v := .int (s 0 17)) (C := RX4) (T := TX4) (N := 29) hx hb hts in4 hown hK hP 0 (me_get (by omega) (mm_0 cy ad _)) rfl 17 (by decide) k57 (fun _ h9 => h9) rfl dX4_change_242 ?_
                    refine lv_iconst (v := nI 1) hx hb dX4_change_245 (by decide) ?_
                    refine lv_isub hx hb dX4_change_246 ?_
                    exact me_reti hx hb hr rfl hlocks hK hP hD hS (by first | (rw [hf103]; simp only [m_chg_103, if_pos c106]; done) | contradiction | exact absurd (by rw [← e86, e66]; exact c70) c90) dX4_change_247
                  ·
                    try have h106 := (not_congr (nI_leI (by omega) (by omega))).mp c106
                    refine lv_aload_n hx hb dX4_change_109 rfl (lv_at hl 2 rfl) ?_
                    refine lv_iload_n hx hb dX4_change_110 rfl (lv_at hl 3 rfl) ?_
                    have b110 := me_inb hB.1
                    refine me_top (me_ine hB.1) ?_
                    refine me_calli (f := m_br a.toNatClampNeg s) (w := (mm_W cy ad xr)) (σ := s) (As := [.int (nI a.toNatClampNeg)]) (rest := []) ⟨hx, hb, hml, hown, hts⟩ (fun sz => c_X4_bring l D cy ad xr a.toNatClampNeg s (by omega) (hI) sz) (cwV 1 hts gX4_change_X4_bring rfl rfl rfl (by decide +kernel) ⟨Nat.le_of_ble_eq_true rfl, Nat.le_of_ble_eq_true rfl⟩) (va_recv hK hP (ci := 4) (q0 := 0) rfl (me_get (by omega) (mm_0 cy ad _))) hK hP hD hS hA rfl hl.1 rfl (Nat.le_of_ble_eq_true rfl) dX4_change_111 ⟨Nat.zero_le _, Nat.zero_le _⟩ (fun r111 s111 H locs e111 hP hD hS => ?_)
                    have gB := pu_mbr e111 b110 hI
                    refine lv_istore (lv' := [(8, .int r111), (7, .int (nI i)), (6, .int v), (0, .ref (ad 0)), (1, .int a), (2, .int b), (3, .int w), (4, .int x), (5, .int y)]) hx hb dX4_change_114 hl (by decide) rfl (fun ls hl => ?_)
                    refine lv_iload hx hb dX4_change_116 (lv_at hl 0 rfl) ?_
                    refine lv_iconst (v := (-1)) hx hb dX4_change_118 (by decide) ?_
                    refine lv_icmp_ne (tgt := 125) hx hb dX4_change_119 (by decide) (fun c119 => ?_) (fun c119 => ?_)
                    ·
                      refine lv_aload_n hx hb dX4_change_125 rfl (lv_at hl 3 rfl) ?_
                      refine va_get (D := D) (ci := 4) (v := .ref (ad 14)) (C := RX4) (T := TX4) (N := 29) hx hb hts in4 hown hK hP 0 (me_get (by omega) (mm_0 cy ad _)) rfl 15 (by decide) k54 (fun _ h9 => h9) rfl dX4_change_126 ?_
                      refine lv_bipush (v := nI 16) hx hb dX4_change_129 (by decide) ?_
                      refine lv_iload hx hb dX4_change_131 (lv_at hl 0 rfl) ?_
                      have b131 := me_inb (gB.2.2 c119).1
                      refine me_top (me_ine (gB.2.2 c119).1) ?_
                      refine lv_imul hx hb dX4_change_133 ?_
                      refine me_top (pk_mul _ _) ?_
                      refine lv_iload_n hx hb dX4_change_134 rfl (lv_at hl 5 rfl) ?_
                      have b134 := me_inb hB.2.1
                      refine me_top (me_ine hB.2.1) ?_
                      refine lv_iadd hx hb dX4_change_135 ?_
                      refine me_top (nI_add _ _) ?_
                      refine lv_iload hx hb dX4_change_136 (lv_at hl 1 rfl) ?_
                      refine lv_iadd hx hb dX4_change_138 ?_
                      refine me_top (nI_add _ _) ?_
                      refine lv_iload hx hb dX4_change_139 (lv_at hl 2 rfl) ?_
                      refine me_iast hx hb hK hP hD hS 14 0 (by omega) (fun f => mm_14 cy ad f) rfl (16 * r111.toNatClampNeg + b.toNatClampNeg + i) rfl (by omega) (by decide) dX4_change_141 (fun s141 H locs e141 hP hD hS => ?_)
                      refine lv_aload_n hx hb dX4_change_142 rfl (lv_at hl 3 rfl) ?_
                      refine va_get (D := D) (ci := 4) (v := .ref (ad 11)) (C := RX4) (T := TX4) (N := 29) hx hb hts in4 hown hK hP 0 (me_get (by omega) (mm_0 cy ad _)) rfl 12 (by decide) k44 (fun _ h9 => h9) rfl dX4_change_143 ?_
                      refine lv_iload hx hb dX4_change_146 (lv_at hl 0 rfl) ?_
                      refine lv_aload_n hx hb dX4_change_148 rfl (lv_at hl 3 rfl) ?_
                      refine va_get (D := D) (ci := 4) (v := .int (s141 0 17)) (C := RX4) (T := TX4) (N := 29) hx hb hts in4 hown hK hP 0 (me_get (by omega) (mm_0 cy ad _)) rfl 17 (by decide) k57 (fun _ h9 => h9) rfl dX4_change_149 ?_
                      have v152 : vp_in r111 4 := (gB.2.2 c119).1
                      have b152 := me_inb v152
                      refine me_iast hx hb hK hP hD hS 11 0 (by omega) (fun f => mm_11 cy ad f) rfl r111.toNatClampNeg (me_ine v152) (by omega) (by decide) dX4_change_152 (fun s152 H locs e152 hP hD hS => ?_)
                      refine lv_aload_n hx hb dX4_change_153 rfl (lv_at hl 3 rfl) ?_
                      refine va_get (D := D) (ci := 4) (v := .ref (ad 12)) (C := RX4) (T := TX4) (N := 29) hx hb hts in4 hown hK hP 0 (me_get (by omega) (mm_0 cy ad _)) rfl 13 (by decide) k47 (fun _ h9 => h9) rfl dX4_change_154 ?_
                      refine lv_iload hx hb dX4_change_157 (lv_at hl 0 rfl) ?_
                      refine lv_iconst (v := nI 1) hx hb dX4_change_159 (by decide) ?_
                      have v160 : vp_in r111 4 := (gB.2.2 c119).1
                      have b160 := me_inb v160
                      refine me_zast hx hb hK hP hD hS 12 1 (by omega) (fun f => mm_12 cy ad f) rfl r111.toNatClampNeg (me_ine v160) (by omega) (by decide) (by decide) dX4_change_160 (fun s160 H locs e160 hP hD hS => ?_)
                      refine lv_aload_n hx hb dX4_change_161 rfl (lv_at hl 3 rfl) ?_
                      refine va_get (D := D) (ci := 4) (v := .ref (ad 15)) (C := RX4) (T := TX4) (N := 29) hx hb hts in4 hown hK hP 0 (me_get (by omega) (mm_0 cy ad _)) rfl 19 (by decide) k60 (fun _ h9 => h9) rfl dX4_change_162 ?_
                      refine lv_aload_n hx hb dX4_change_165 rfl (lv_at hl 3 rfl) ?_
                      refine va_get (D := D) (ci := 4) (v := .int (s160 0 18)) (C := RX4) (T := TX4) (N := 29) hx hb hts in4 hown hK hP 0 (me_get (by omega) (mm_0 cy ad _)) rfl 18 (by decide) k82 (fun _ h9 => h9) rfl dX4_change_166 ?_
                      have w166 : vp_in (s160 0 18) 13 := by rw [← e160, ← e152, ← e141, me_st_c _ _ _ (by decide), me_st_c _ _ _ (by decide), me_st_c _ _ _ (by decide)]; exact gB.1.1
                      have b166 := me_inb w166
                      have f166 : (s160 0 18) = s111 0 18 := by rw [← e160, ← e152, ← e141, me_st_c _ _ _ (by decide), me_st_c _ _ _ (by decide), me_st_c _ _ _ (by decide)]
                      refine me_top (me_ine w166) ?_
                      refine lv_aload_n hx hb dX4_change_169 rfl (lv_at hl 3 rfl) ?_
                      refine va_get (D := D) (ci := 4) (v := .int (s160 0 17)) (C := RX4) (T := TX4) (N := 29) hx hb hts in4 hown hK hP 0 (me_get (by omega) (mm_0 cy ad _)) rfl 17 (by decide) k57 (fun _ h9 => h9) rfl dX4_change_170 ?_
                      refine me_iast hx hb hK hP hD hS 15 0 (by omega) (fun f => mm_15 cy ad f) rfl ((s160 0 18).toNatClampNeg) rfl (by omega) (by decide) dX4_change_173 (fun s173 H locs e173 hP hD hS => ?_)
                      refine lv_aload_n hx hb dX4_change_174 rfl (lv_at hl 3 rfl) ?_
                      refine va_get (D := D) (ci := 4) (v := .ref (ad 16)) (C := RX4) (T := TX4) (N := 29) hx hb hts in4 hown hK hP 0 (me_get (by omega) (mm_0 cy ad _)) rfl 20 (by decide) k63 (fun _ h9 => h9) rfl dX4_change_175 ?_
                      refine lv_aload_n hx hb dX4_change_178 rfl (lv_at hl 3 rfl) ?_
                      refine va_get (D := D) (ci := 4) (v := .int (s173 0 18)) (C := RX4) (T := TX4) (N := 29) hx hb hts in4 hown hK hP 0 (me_get (by omega) (mm_0 cy ad _)) rfl 18 (by decide) k82 (fun _ h9 => h9) rfl dX4_change_179 ?_
                      have w179 : vp_in (s173 0 18) 13 := by rw [← e173, me_st_c _ _ _ (by decide)]; exact w166
                      have b179 := me_inb w179
                      have f179 : (s173 0 18) = s111 0 18 := by rw [← e173, me_st_c _ _ _ (by decide)]; exact f166
                      refine me_top (me_ine w179) ?_
                      refine lv_iload_n hx hb dX4_change_182 rfl (lv_at hl 4 rfl) ?_
                      have b182 := me_inb hB.1
                      refine me_top (me_ine hB.1) ?_
                      refine me_iast hx hb hK hP hD hS 16 0 (by omega) (fun f => mm_16 cy ad f) rfl ((s173 0 18).toNatClampNeg) rfl (by omega) (by decide) dX4_change_183 (fun s183 H locs e183 hP hD hS => ?_)
                      refine lv_aload_n hx hb dX4_change_184 rfl (lv_at hl 3 rfl) ?_
                      refine va_get (D := D) (ci := 4) (v := .ref (ad 17)) (C := RX4) (T := TX4) (N := 29) hx hb hts in4 hown hK hP 0 (me_get (by omega) (mm_0 cy ad _)) rfl 21 (by decide) k66 (fun _ h9 => h9) rfl dX4_change_185 ?_
                      refine lv_aload_n hx hb dX4_change_188 rfl (lv_at hl 3 rfl) ?_
                      refine va_get (D := D) (ci := 4) (v := .int (s183 0 18)) (C := RX4) (T := TX4) (N := 29) hx hb hts in4 hown hK hP 0 (me_get (by omega) (mm_0 cy ad _)) rfl 18 (by decide) k82 (fun _ h9 => h9) rfl dX4_change_189 ?_
                      have w189 : vp_in (s183 0 18) 13 := by rw [← e183, me_st_c _ _ _ (by decide)]; exact w179
                      have b189 := me_inb w189
                      have f189 : (s183 0 18) = s111 0 18 := by rw [← e183, me_st_c _ _ _ (by decide)]; exact f179
                      refine me_top (me_ine w189) ?_
                      refine lv_iload_n hx hb dX4_change_192 rfl (lv_at hl 5 rfl) ?_
                      have b192 := me_inb hB.2.1
                      refine me_top (me_ine hB.2.1) ?_
                      refine lv_iload hx hb dX4_change_193 (lv_at hl 1 rfl) ?_
                      refine lv_iadd hx hb dX4_change_195 ?_
                      refine me_top (nI_add _ _) ?_
                      refine me_iast hx hb hK hP hD hS 17 0 (by omega) (fun f => mm_17 cy ad f) rfl ((s183 0 18).toNatClampNeg) rfl (by omega) (by decide) dX4_change_196 (fun s196 H locs e196 hP hD hS => ?_)
                      refine lv_aload_n hx hb dX4_change_197 rfl (lv_at hl 3 rfl) ?_
                      refine va_get (D := D) (ci := 4) (v := .ref (ad 18)) (C := RX4) (T := TX4) (N := 29) hx hb hts in4 hown hK hP 0 (me_get (by omega) (mm_0 cy ad _)) rfl 22 (by decide) k69 (fun _ h9 => h9) rfl dX4_change_198 ?_
                      refine lv_aload_n hx hb dX4_change_201 rfl (lv_at hl 3 rfl) ?_
                      refine va_get (D := D) (ci := 4) (v := .int (s196 0 18)) (C := RX4) (T := TX4) (N := 29) hx hb hts in4 hown hK hP 0 (me_get (by omega) (mm_0 cy ad _)) rfl 18 (by decide) k82 (fun _ h9 => h9) rfl dX4_change_202 ?_
                      have w202 : vp_in (s196 0 18) 13 := by rw [← e196, me_st_c _ _ _ (by decide)]; exact w189
                      have b202 := me_inb w202
                      have f202 : (s196 0 18) = s111 0 18 := by rw [← e196, me_st_c _ _ _ (by decide)]; exact f189
                      refine me_top (me_ine w202) ?_
                      refine lv_iload hx hb dX4_change_205 (lv_at hl 2 rfl) ?_
                      refine me_iast hx hb hK hP hD hS 18 0 (by omega) (fun f => mm_18 cy ad f) rfl ((s196 0 18).toNatClampNeg) rfl (by omega) (by decide) dX4_change_207 (fun s207 H locs e207 hP hD hS => ?_)
                      refine lv_aload_n hx hb dX4_change_208 rfl (lv_at hl 3 rfl) ?_
                      refine lv_dup hx hb dX4_change_209 rfl ?_
                      refine va_get (D := D) (ci := 4) (v := .int (s207 0 18)) (C := RX4) (T := TX4) (N := 29) hx hb hts in4 hown hK hP 0 (me_get (by omega) (mm_0 cy ad _)) rfl 18 (by decide) k82 (fun _ h9 => h9) rfl dX4_change_210 ?_
                      refine lv_iconst (v := nI 1) hx hb dX4_change_213 (by decide) ?_
                      refine lv_iadd hx hb dX4_change_214 ?_
                      refine me_put (ty := .int) (ci := 4) (C := RX4) (T := TX4) (M := 29) hx hb hts in4 tyX4 tyX4_ok nmX4 hown hK hP hD hS 0 (by omega) (mm_0 cy ad _) rfl 18 (by decide) k82 (fun _ h9 => h9) rfl (by decide +kernel) rfl rfl (Nat.le_of_ble_eq_true rfl) (mm_0 cy ad _) dX4_change_215 (fun s215 H locs e215 hP hD hS => ?_)
                      refine lv_aload_n hx hb dX4_change_218 rfl (lv_at hl 3 rfl) ?_
                      refine lv_dup hx hb dX4_change_219 rfl ?_
                      refine va_get (D := D) (ci := 4) (v := .int (s215 0 17)) (C := RX4) (T := TX4) (N := 29) hx hb hts in4 hown hK hP 0 (me_get (by omega) (mm_0 cy ad _)) rfl 17 (by decide) k57 (fun _ h9 => h9) rfl dX4_change_220 ?_
                      refine lv_iconst (v := nI 1) hx hb dX4_change_223 (by decide) ?_
                      refine lv_iadd hx hb dX4_change_224 ?_
                      refine me_put (ty := .int) (ci := 4) (C := RX4) (T := TX4) (M := 29) hx hb hts in4 tyX4 tyX4_ok nmX4 hown hK hP hD hS 0 (by omega) (mm_0 cy ad _) rfl 17 (by decide) k57 (fun _ h9 => h9) rfl (by decide +kernel) rfl rfl (Nat.le_of_ble_eq_true rfl) (mm_0 cy ad _) dX4_change_225 (fun s225 H locs e225 hP hD hS => ?_)
                      have gW : (s111 0 18).toNatClampNeg + w.toNatClampNeg ≤ 12 + i := by rcases pu_mbr_w e111 hI c119 with q | q; (rw [q]; exact hwt); (rw [q, nI_clamp (by decide)]; omega)
                      have gN : (s111 0 17).toNatClampNeg < 99000 + i := by rw [gB.2.1.1]; exact hnx
                      have x183 : me_st s173 16 (s160 0 18).toNatClampNeg (nI a.toNatClampNeg) = s183 := by rw [f166, ← f179]; exact e183
                      have x196 : me_st s183 17 (s160 0 18).toNatClampNeg (nI (b.toNatClampNeg + i)) = s196 := by rw [f166, ← f189]; exact e196
                      have x207 : me_st s196 18 (s160 0 18).toNatClampNeg v = s207 := by rw [f166, ← f202]; exact e207
                      have gS := pu_mcst e141 e152 e160 e173 x183 x196 x207 e215 e225 (by rw [(gB.2.2 c119).2]; exact vp_in_nI b110 (by decide)) b110 (by omega) (by omega) (by omega) gB.1
                      refine lv_iload hx hb dX4_change_228 (lv_at hl 2 rfl) ?_
                      refine lv_iload hx hb dX4_change_230 (lv_at hl 8 rfl) ?_
                      refine lv_iadd hx hb dX4_change_232 ?_
                      refine lv_istore (lv' := [(6, .int (v + y)), (8, .int r111), (7, .int (nI i)), (0, .ref (ad 0)), (1, .int a), (2, .int b), (3, .int w), (4, .int x), (5, .int y)]) hx hb dX4_change_233 hl (by decide) rfl (fun ls hl => ?_)
                      refine lv_iinc (v := nI (i + 1)) (lv' := [(7, .int (nI (i + 1))), (6, .int (v + y)), (8, .int r111), (0, .ref (ad 0)), (1, .int a), (2, .int b), (3, .int w), (4, .int x), (5, .int y)]) hx hb dX4_change_235 hl (k := 2) rfl (me_inc _) (by decide) rfl (fun ls hl => ?_)
                      refine lv_goto (tgt := 103) hx hb dX4_change_238 (by decide) ?_
                      exact ih (v + y) (i + 1) s225 _ _ hP hD hS ls (lv_sub hl [0, 1, 3, 4, 5, 6, 7, 8] rfl) (by omega) (by omega) (gS.1) (by have := gS.2.1; omega) (by have := gS.2.2; omega) (by rw [hf103]; simp only [m_chg_103, if_neg c106, e111, if_neg c119, e141, e152, e160, e173, e183, e196, e207, e215, e225])
                    ·
                      refine lv_bipush (v := (-3)) hx hb dX4_change_122 (by decide) ?_
                      exact me_reti hx hb hr rfl hlocks hK hP hD hS (by first | (rw [hf103]; simp only [m_chg_103, if_neg c106, e111, if_pos c119]; done) | contradiction | exact absurd (by rw [← e86, e66]; exact c70) c90) dX4_change_124
              exact J103 (w.toNatClampNeg + 1) x 0 s74 _ _ hP hD hS ls (lv_sub hl [0, 1, 2, 3, 4, 5, 6, 7] rfl) (by omega) (by omega) (hR.1) (by have := hR.2.2; omega) (me_inb hR.2.1) (by rw [hf44]; simp only [m_chg_44, e45, if_pos c48, e57, if_pos c60, e66, if_neg c70, e74, if_neg c79, e86, if_pos c90])
            ·
              refine lv_bipush (v := (-2)) hx hb dX4_change_93 (by decide) ?_
              exact me_reti hx hb hr rfl hlocks hK hP hD hS (by first | (rw [hf44]; simp only [m_chg_44, e45, if_pos c48, e57, if_pos c60, e66, if_neg c70, e74, if_neg c79, e86, if_neg c90]; done) | contradiction | exact absurd (by rw [← e86, e66]; exact c70) c90) dX4_change_95
          ·
            refine lv_bipush (v := (-3)) hx hb dX4_change_82 (by decide) ?_
            exact me_reti hx hb hr rfl hlocks hK hP hD hS (by first | (rw [hf44]; simp only [m_chg_44, e45, if_pos c48, e57, if_pos c60, e66, if_neg c70, e74, if_pos c79]; done) | contradiction | exact absurd (by rw [← e86, e66]; exact c70) c90) dX4_change_84
      ·
        refine lv_iconst (v := nI 0) hx hb dX4_change_63 (by decide) ?_
        exact me_reti hx hb hr rfl hlocks hK hP hD hS (by first | (rw [hf44]; simp only [m_chg_44, e45, if_pos c48, e57, if_neg c60]; done) | contradiction | exact absurd (by rw [← e86, e66]; exact c70) c90) dX4_change_64
  refine lv_aload_n hx hb dX4_change_5 rfl (lv_at hl 0 rfl) ?_
  refine lv_iload_n hx hb dX4_change_6 rfl (lv_at hl 1 rfl) ?_
  refine lv_iconst (v := nI 0) hx hb dX4_change_7 (by decide) ?_
  refine lv_bipush (v := nI 11) hx hb dX4_change_8 (by decide) ?_
  refine me_calls (As := [.int a, .int (nI 0), .int (nI 11)]) (rest := [.ref (ad 0)]) ⟨hx, hb, hml, hown, hts⟩ (c_X4_in l a (nI 0) (nI 11) ) (cwS 3 hts gX4_change_X4_in rfl rfl rfl (by decide +kernel) ⟨Nat.le_of_ble_eq_true rfl, Nat.le_of_ble_eq_true rfl⟩) rfl hl.1 rfl (Nat.le_of_ble_eq_true rfl) dX4_change_10 ⟨Nat.zero_le _, Nat.zero_le _⟩ ?_
  refine lv_if_eq (tgt := 39) hx hb dX4_change_13 (by decide) (fun c13 => ?_) (fun c13 => ?_)
  ·
    refine lv_iconst (v := nI 1) hx hb dX4_change_39 (by decide) ?_
    refine lv_goto (tgt := 44) hx hb dX4_change_40 (by decide) ?_
    exact J44 (nI 1) s2 _ _ hP hD hS ls (lv_sub hl [0, 1, 2, 3, 4, 5] rfl) (pu_thz e2) (pu_th_I e2 hI) (by first | exact Or.inl rfl | exact Or.inr ⟨rfl, pu_chg c13 c23 c28 c36⟩) (by rw [← e2, me_st_s _ _ _ (by decide)]; exact hN) (by simp only [m_chg, e2, if_pos c13])
  ·
    refine lv_iload_n hx hb dX4_change_16 rfl (lv_at hl 2 rfl) ?_
    refine lv_iconst (v := nI 0) hx hb dX4_change_17 (by decide) ?_
    refine lv_bipush (v := nI 15) hx hb dX4_change_18 (by decide) ?_
    refine me_calls (As := [.int b, .int (nI 0), .int (nI 15)]) (rest := [.ref (ad 0)]) ⟨hx, hb, hml, hown, hts⟩ (c_X4_in l b (nI 0) (nI 15) ) (cwS 3 hts gX4_change_X4_in rfl rfl rfl (by decide +kernel) ⟨Nat.le_of_ble_eq_true rfl, Nat.le_of_ble_eq_true rfl⟩) rfl hl.1 rfl (Nat.le_of_ble_eq_true rfl) dX4_change_20 ⟨Nat.zero_le _, Nat.zero_le _⟩ ?_
    refine lv_if_eq (tgt := 39) hx hb dX4_change_23 (by decide) (fun c23 => ?_) (fun c23 => ?_)
    ·
      refine lv_iconst (v := nI 1) hx hb dX4_change_39 (by decide) ?_
      refine lv_goto (tgt := 44) hx hb dX4_change_40 (by decide) ?_
      exact J44 (nI 1) s2 _ _ hP hD hS ls (lv_sub hl [0, 1, 2, 3, 4, 5] rfl) (pu_thz e2) (pu_th_I e2 hI) (by first | exact Or.inl rfl | exact Or.inr ⟨rfl, pu_chg c13 c23 c28 c36⟩) (by rw [← e2, me_st_s _ _ _ (by decide)]; exact hN) (by simp only [m_chg, e2, if_neg c13, if_pos c23])
    ·
      refine lv_iload_n hx hb dX4_change_26 rfl (lv_at hl 3 rfl) ?_
      refine lv_iconst (v := nI 1) hx hb dX4_change_27 (by decide) ?_
      refine lv_icmp_lt (tgt := 39) hx hb dX4_change_28 (by decide) (fun c28 => ?_) (fun c28 => ?_)
      ·
        refine lv_iconst (v := nI 1) hx hb dX4_change_39 (by decide) ?_
        refine lv_goto (tgt := 44) hx hb dX4_change_40 (by decide) ?_
        exact J44 (nI 1) s2 _ _ hP hD hS ls (lv_sub hl [0, 1, 2, 3, 4, 5] rfl) (pu_thz e2) (pu_th_I e2 hI) (by first | exact Or.inl rfl | exact Or.inr ⟨rfl, pu_chg c13 c23 c28 c36⟩) (by rw [← e2, me_st_s _ _ _ (by decide)]; exact hN) (by simp only [m_chg, e2, if_neg c13, if_neg c23, if_pos c28])
      ·
        refine lv_iload_n hx hb dX4_change_31 rfl (lv_at hl 3 rfl) ?_
        refine lv_bipush (v := nI 16) hx hb dX4_change_32 (by decide) ?_
        refine lv_iload_n hx hb dX4_change_34 rfl (lv_at hl 2 rfl) ?_
        refine lv_isub hx hb dX4_change_35 ?_
        refine lv_icmp_le (tgt := 43) hx hb dX4_change_36 (by decide) (fun c36 => ?_) (fun c36 => ?_)
        ·
          refine lv_iconst (v := nI 0) hx hb dX4_change_43 (by decide) ?_
          exact J44 (nI 0) s2 _ _ hP hD hS ls (lv_sub hl [0, 1, 2, 3, 4, 5] rfl) (pu_thz e2) (pu_th_I e2 hI) (by first | exact Or.inl rfl | exact Or.inr ⟨rfl, pu_chg c13 c23 c28 c36⟩) (by rw [← e2, me_st_s _ _ _ (by decide)]; exact hN) (by simp only [m_chg, e2, if_neg c13, if_neg c23, if_neg c28, if_pos c36])
        ·
          refine lv_iconst (v := nI 1) hx hb dX4_change_39 (by decide) ?_
          refine lv_goto (tgt := 44) hx hb dX4_change_40 (by decide) ?_
          exact J44 (nI 1) s2 _ _ hP hD hS ls (lv_sub hl [0, 1, 2, 3, 4, 5] rfl) (pu_thz e2) (pu_th_I e2 hI) (by first | exact Or.inl rfl | exact Or.inr ⟨rfl, pu_chg c13 c23 c28 c36⟩) (by rw [← e2, me_st_s _ _ _ (by decide)]; exact hN) (by simp only [m_chg, e2, if_neg c13, if_neg c23, if_neg c28, if_neg c36])
