def m_br_4 : Nat → Nat → Int32 → Nat → me_M → Int32
  | 0, g, v, i, s => (0)
  | n + 1, g, v, i, s => if nI 4 ≤ (nI i) then ((v)) else (if (s 10 i) = nI g then (m_br_4 n g (nI i) (i + 1) s) else (m_br_4 n g v (i + 1) s))
def m_br_41 : Nat → Nat → Int32 → Int32 → me_M → Int32
  | 0, g, v, x, s => (0)
  | n + 1, g, v, x, s => if x < 0 then ((v)) else (if (s 10 x.toNatClampNeg) = (-1) then (m_br_41 n g x (x + (-1)) s) else (m_br_41 n g v (x + (-1)) s))
def m_br_176 : Nat → Nat → Int32 → Nat → me_M → me_M
  | 0, g, w, i, s => (s)
  | n + 1, g, w, i, s => if nI 16 ≤ (nI i) then ((s)) else (let s206 := me_st s 14 (16 * w.toNatClampNeg + i) (s 2 (16 * g + i)); m_br_176 n g w (i + 1) s206)
def m_br_83 : Nat → Nat → Nat → Nat → me_M → Nat
  | 0, g, v, i, s => (0)
  | n + 1, g, v, i, s => if nI 4 ≤ (nI i) then ((v)) else (if s 13 v ≤ (s 13 i) then (m_br_83 n g v (i + 1) s) else (m_br_83 n g i (i + 1) s))
def m_br (g : Nat) (σ : me_M) : Int32 × me_M := let v4 := m_br_4 5 g ((-1)) 0 σ; if v4 = (-1) then (let v41 := m_br_41 5 g ((-1)) (nI 3) σ; if v41 = (-1) then (let v83 := m_br_83 4 g 0 1 σ; if (σ 12 v83) = 0 then (let s151 := me_st σ 10 v83 (nI g); let s165 := me_st s151 11 v83 (s151 1 (4 * g)); let s172 := me_st s165 12 v83 (nI 0); let s176 := m_br_176 17 g (nI v83) 0 s172; let s220 := me_st s176 0 16 ((s176 0 16) + (nI 1)); let s232 := me_st s220 13 v83 (s220 0 16); (nI v83, s232)) else (let q134 := m_cl (nI v83) σ; let r134 := q134.1; let s134 := q134.2; if r134 = 0 then (((-1), s134)) else (let s151 := me_st s134 10 v83 (nI g); let s165 := me_st s151 11 v83 (s151 1 (4 * g)); let s172 := me_st s165 12 v83 (nI 0); let s176 := m_br_176 17 g (nI v83) 0 s172; let s220 := me_st s176 0 16 ((s176 0 16) + (nI 1)); let s232 := me_st s220 13 v83 (s220 0 16); (nI v83, s232)))) else (let s151 := me_st σ 10 v41.toNatClampNeg (nI g); let s165 := me_st s151 11 v41.toNatClampNeg (s151 1 (4 * g)); let s172 := me_st s165 12 v41.toNatClampNeg (nI 0); let s176 := m_br_176 17 g v41 0 s172; let s220 := me_st s176 0 16 ((s176 0 16) + (nI 1)); let s232 := me_st s220 13 v41.toNatClampNeg (s220 0 16); (v41, s232))) else (let s220 := me_st σ 0 16 ((σ 0 16) + (nI 1)); let s232 := me_st s220 13 v4.toNatClampNeg (s220 0 16); (v4, s232))
set_option maxRecDepth 100000 in
set_option maxHeartbeats 4000000 in
theorem c_X4_bring (l : Launch) (D : va_G) (cy : Nat → ClassId) (ad : Nat → Nat) (xr : va_W) (g : Nat) (σ : me_M) (hg : g < 12) (hI : m_I σ) (sz : Nat) : me_Ci l yX4_bring wsX4_bring ({ frames := 4, cells := 0, slots := 0, locals := 90 }) D (me_T cy) (mm_W cy ad xr) [.ref (ad 0), .int (nI g)] sz σ (m_br g σ) := by
  refine Met.ofW (cc := cX4_bring) (maxL := 6) (ret := (some .int)) (by decide) rfl ?_
  intro p e st m args below meth c s₁ B hml hv
  obtain ⟨rfl, hsz, hP, hK, hD0⟩ := hv
  have hx := B.exec
  have hb := B.bytes
  have hr := B.returns
  have hts := atoms_spec (ws := wsX4_bring) B.pre
  have hown : st.vm.findClass RX4 = some m.cls := findClass_of_methodNamed B.named
  have hlocks := B.notSynchronized
  have in4 : ∀ w ∈ u_ws RX4 TX4 29, w ∈ wsX4_bring := by decide +kernel
  have k7 := hts (.fieldLink RX4 7 "TwinWritesModel" "homeStamp" "[I") (by decide +kernel)
  have k13 := hts (.fieldLink RX4 13 "TwinWritesModel" "homeWord" "[I") (by decide +kernel)
  have k41 := hts (.fieldLink RX4 41 "TwinWritesModel" "framePage" "[I") (by decide +kernel)
  have k44 := hts (.fieldLink RX4 44 "TwinWritesModel" "frameStamp" "[I") (by decide +kernel)
  have k47 := hts (.fieldLink RX4 47 "TwinWritesModel" "isDirty" "[Z") (by decide +kernel)
  have k51 := hts (.fieldLink RX4 51 "TwinWritesModel" "asked" "[I") (by decide +kernel)
  have k54 := hts (.fieldLink RX4 54 "TwinWritesModel" "frameWord" "[I") (by decide +kernel)
  have k113 := hts (.fieldLink RX4 113 "TwinWritesModel" "clock" "I") (by decide +kernel)
  subst hsz
  have hD := hD0.self (sz := st.heap.size)
  have hA : ∀ q : Nat, st.heap.size ≤ q → va_A ((mm_W cy ad xr) σ) st.heap.size q := fun q h => Or.inr h
  have hS : va_S (va_A ((mm_W cy ad xr) σ) st.heap.size) st.heap st.heap [] := va_S.rf
  generalize va_A ((mm_W cy ad xr) σ) st.heap.size = A at hD hA hS ⊢
  have hl := lv_entry ([.ref (ad 0), .int (nI g)]) (n := 6) (Nat.le_of_ble_eq_true rfl)
  rw [lg_entry_eq]
  generalize (lg_sl ([.ref (ad 0), .int (nI g)]) ++ List.replicate (6 - (lg_sl ([.ref (ad 0), .int (nI g)])).length) Slot.unset).toArray = ls at hl ⊢
  have hl : lv_has ls 6 [(0, .ref (ad 0)), (1, .int (nI g))] := hl
  refine lv_iconst (v := (-1)) hx hb dX4_bring_0 (by decide) ?_
  refine lv_istore_n (lv' := [(2, .int ((-1))), (0, .ref (ad 0)), (1, .int (nI g))]) hx hb dX4_bring_1 rfl hl (by decide) rfl (fun ls hl => ?_)
  refine lv_iconst (v := nI 0) hx hb dX4_bring_2 (by decide) ?_
  refine lv_istore_n (lv' := [(3, .int (nI 0)), (2, .int ((-1))), (0, .ref (ad 0)), (1, .int (nI g))]) hx hb dX4_bring_3 rfl hl (by decide) rfl (fun ls hl => ?_)
  have J4 : ∀ (n : Nat) (v : Int32) (i : Nat) (H : Heap) (locs : List Loc) (hP : va_P D vwCl ((mm_W cy ad xr) σ) H) (hD : va_D A ((mm_W cy ad xr) σ)) (hS : va_S A st.heap H locs) (ls : Array Slot) (hl : lv_has ls 6 [(3, .int (nI i)), (2, .int v), (0, .ref (ad 0)), (1, .int (nI g))]), ∀ (hv : v = (-1) ∨ vp_in v 4), ∀ (hi : i ≤ 4), ∀ (hn : 5 ≤ i + n), (∀ (v' : Int32) (H : Heap) (locs : List Loc) (hP : va_P D vwCl ((mm_W cy ad xr) σ) H) (hD : va_D A ((mm_W cy ad xr) σ)) (hS : va_S A st.heap H locs) (ls : Array Slot) (hl : lv_has ls 6 [(2, .int v'), (0, .ref (ad 0)), (1, .int (nI g))]) (eJ : m_br_4 n g v i σ = (v')) (hv : v' = (-1) ∨ vp_in v' 4), W p l e (headSpec wsX4_bring ({ frames := 4, cells := 0, slots := 0, locals := 90 })).room st m ([.ref (ad 0), .int (nI g)] : List Value).toArray below meth c H locs 0 0 (MQ below (va_Qi (fun r σ' => (r, σ') = m_br g σ) (me_B D (me_T cy) A (mm_W cy ad xr)) A) ([.ref (ad 0), .int (nI g)] : List Value).toArray st 0 0 A) (F0 m 31 ls [])) → W p l e (headSpec wsX4_bring ({ frames := 4, cells := 0, slots := 0, locals := 90 })).room st m ([.ref (ad 0), .int (nI g)] : List Value).toArray below meth c H locs 0 0 (MQ below (va_Qi (fun r σ' => (r, σ') = m_br g σ) (me_B D (me_T cy) A (mm_W cy ad xr)) A) ([.ref (ad 0), .int (nI g)] : List Value).toArray st 0 0 A) (F0 m 4 ls []) := by
    intro n
    induction n with
    | zero => intro v i H locs hP hD hS ls hl hv hi hn kk4; exfalso; omega
    | succ n ih =>
      intro v i H locs hP hD hS ls hl hv hi hn kk4
      refine lv_iload_n hx hb dX4_bring_4 rfl (lv_at hl 0 rfl) ?_
      refine lv_iconst (v := nI 4) hx hb dX4_bring_5 (by decide) ?_
      refine lv_icmp_ge (tgt := 31) hx hb dX4_bring_6 (by decide) (fun c6 => ?_) (fun c6 => ?_)
      ·
        try have h6 := (nI_leI (by omega) (by omega)).mp c6
        exact kk4 v _ _ hP hD hS ls (lv_sub hl [1, 2, 3] rfl) (by simp only [m_br_4, if_pos c6]) (hv)
      ·
        try have h6 := (not_congr (nI_leI (by omega) (by omega))).mp c6
        refine lv_aload_n hx hb dX4_bring_9 rfl (lv_at hl 2 rfl) ?_
        refine va_get (D := D) (ci := 4) (v := .ref (ad 10)) (C := RX4) (T := TX4) (N := 29) hx hb hts in4 hown hK hP 0 (me_get (by omega) (mm_0 cy ad _)) rfl 11 (by decide) k41 (fun _ h9 => h9) rfl dX4_bring_10 ?_
        refine lv_iload_n hx hb dX4_bring_13 rfl (lv_at hl 0 rfl) ?_
        refine me_iald hx hb hK hP 10 0 (by omega) (fun f => mm_10 cy ad f) rfl i rfl (by omega) (by decide) dX4_bring_14 ?_
        refine lv_iload_n hx hb dX4_bring_15 rfl (lv_at hl 3 rfl) ?_
        refine lv_icmp_ne (tgt := 23) hx hb dX4_bring_16 (by decide) (fun c16 => ?_) (fun c16 => ?_)
        ·
          refine lv_iload_n hx hb dX4_bring_23 rfl (lv_at hl 1 rfl) ?_
          refine lv_istore_n (lv' := [(2, .int v), (3, .int (nI i)), (0, .ref (ad 0)), (1, .int (nI g))]) hx hb dX4_bring_24 rfl hl (by decide) rfl (fun ls hl => ?_)
          refine lv_iinc (v := nI (i + 1)) (lv' := [(3, .int (nI (i + 1))), (2, .int v), (0, .ref (ad 0)), (1, .int (nI g))]) hx hb dX4_bring_25 hl (k := 1) rfl (me_inc _) (by decide) rfl (fun ls hl => ?_)
          refine lv_goto (tgt := 4) hx hb dX4_bring_28 (by decide) ?_
          exact ih v (i + 1) _ _ hP hD hS ls (lv_sub hl [0, 1, 2, 3] rfl) (by first | exact hv | exact Or.inr (vp_in_nI (by omega) (by decide))) (by omega) (by omega) (fun v' H locs hP hD hS ls hl eJ hv => kk4 v' H locs hP hD hS ls hl (by simp only [m_br_4, if_neg c6, if_neg c16]; exact eJ) hv)
        ·
          refine lv_iload_n hx hb dX4_bring_19 rfl (lv_at hl 0 rfl) ?_
          refine lv_goto (tgt := 24) hx hb dX4_bring_20 (by decide) ?_
          refine lv_istore_n (lv' := [(2, .int (nI i)), (3, .int (nI i)), (0, .ref (ad 0)), (1, .int (nI g))]) hx hb dX4_bring_24 rfl hl (by decide) rfl (fun ls hl => ?_)
          refine lv_iinc (v := nI (i + 1)) (lv' := [(3, .int (nI (i + 1))), (2, .int (nI i)), (0, .ref (ad 0)), (1, .int (nI g))]) hx hb dX4_bring_25 hl (k := 1) rfl (me_inc _) (by decide) rfl (fun ls hl => ?_)
          refine lv_goto (tgt := 4) hx hb dX4_bring_28 (by decide) ?_
          exact ih (nI i) (i + 1) _ _ hP hD hS ls (lv_sub hl [0, 1, 2, 3] rfl) (by first | exact hv | exact Or.inr (vp_in_nI (by omega) (by decide))) (by omega) (by omega) (fun v' H locs hP hD hS ls hl eJ hv => kk4 v' H locs hP hD hS ls hl (by simp only [m_br_4, if_neg c6, if_pos c16]; exact eJ) hv)
  refine J4 5 ((-1)) 0 _ _ hP hD hS ls (lv_sub hl [0, 1, 2, 3] rfl) (Or.inl rfl) (by omega) (by omega) (fun v4 H locs hP hD hS ls hl e4 hv4 => ?_)
  refine lv_iload_n hx hb dX4_bring_31 rfl (lv_at hl 0 rfl) ?_
  refine lv_iconst (v := (-1)) hx hb dX4_bring_32 (by decide) ?_
  refine lv_icmp_ne (tgt := 213) hx hb dX4_bring_33 (by decide) (fun c33 => ?_) (fun c33 => ?_)
  ·
    refine lv_aload_n hx hb dX4_bring_213 rfl (lv_at hl 1 rfl) ?_
    refine lv_dup hx hb dX4_bring_214 rfl ?_
    refine va_get (D := D) (ci := 4) (v := .int (σ 0 16)) (C := RX4) (T := TX4) (N := 29) hx hb hts in4 hown hK hP 0 (me_get (by omega) (mm_0 cy ad _)) rfl 16 (by decide) k113 (fun _ h9 => h9) rfl dX4_bring_215 ?_
    refine lv_iconst (v := nI 1) hx hb dX4_bring_218 (by decide) ?_
    refine lv_iadd hx hb dX4_bring_219 ?_
    refine me_put (ty := .int) (ci := 4) (C := RX4) (T := TX4) (M := 29) hx hb hts in4 tyX4 tyX4_ok nmX4 hown hK hP hD hS 0 (by omega) (mm_0 cy ad _) rfl 16 (by decide) k113 (fun _ h9 => h9) rfl (by decide +kernel) rfl rfl (Nat.le_of_ble_eq_true rfl) (mm_0 cy ad _) dX4_bring_220 (fun s220 H locs e220 hP hD hS => ?_)
    refine lv_aload_n hx hb dX4_bring_223 rfl (lv_at hl 1 rfl) ?_
    refine va_get (D := D) (ci := 4) (v := .ref (ad 13)) (C := RX4) (T := TX4) (N := 29) hx hb hts in4 hown hK hP 0 (me_get (by omega) (mm_0 cy ad _)) rfl 14 (by decide) k51 (fun _ h9 => h9) rfl dX4_bring_224 ?_
    refine lv_iload_n hx hb dX4_bring_227 rfl (lv_at hl 0 rfl) ?_
    refine lv_aload_n hx hb dX4_bring_228 rfl (lv_at hl 1 rfl) ?_
    refine va_get (D := D) (ci := 4) (v := .int (s220 0 16)) (C := RX4) (T := TX4) (N := 29) hx hb hts in4 hown hK hP 0 (me_get (by omega) (mm_0 cy ad _)) rfl 16 (by decide) k113 (fun _ h9 => h9) rfl dX4_bring_229 ?_
    have v232 : vp_in v4 4 := by first | exact hv4.resolve_left c33 | exact hv41.resolve_left c74
    have b232 := me_inb v232
    refine me_iast hx hb hK hP hD hS 13 0 (by omega) (fun f => mm_13 cy ad f) rfl v4.toNatClampNeg (me_ine v232) (by omega) (by decide) dX4_bring_232 (fun s232 H locs e232 hP hD hS => ?_)
    refine lv_iload_n hx hb dX4_bring_233 rfl (lv_at hl 0 rfl) ?_
    exact me_reti hx hb hr rfl hlocks hK hP hD hS (by simp only [m_br, e4, if_neg c33, e220, e232]) dX4_bring_234
  ·
    refine lv_iconst (v := (-1)) hx hb dX4_bring_36 (by decide) ?_
    refine lv_istore_n (lv' := [(3, .int ((-1))), (2, .int v4), (0, .ref (ad 0)), (1, .int (nI g))]) hx hb dX4_bring_37 rfl hl (by decide) rfl (fun ls hl => ?_)
    refine lv_iconst (v := nI 3) hx hb dX4_bring_38 (by decide) ?_
    refine lv_istore (lv' := [(4, .int (nI 3)), (3, .int ((-1))), (2, .int v4), (0, .ref (ad 0)), (1, .int (nI g))]) hx hb dX4_bring_39 hl (by decide) rfl (fun ls hl => ?_)
    have J41 : ∀ (n : Nat) (v : Int32) (x : Int32) (H : Heap) (locs : List Loc) (hP : va_P D vwCl ((mm_W cy ad xr) σ) H) (hD : va_D A ((mm_W cy ad xr) σ)) (hS : va_S A st.heap H locs) (ls : Array Slot) (hl : lv_has ls 6 [(4, .int x), (3, .int v), (2, .int v4), (0, .ref (ad 0)), (1, .int (nI g))]), ∀ (hv : v = (-1) ∨ vp_in v 4), ∀ (hxx : vp_in (x + nI 1) 5), ∀ (hn : (x + nI 1).toNatClampNeg + 1 ≤ n), (∀ (v' : Int32) (H : Heap) (locs : List Loc) (hP : va_P D vwCl ((mm_W cy ad xr) σ) H) (hD : va_D A ((mm_W cy ad xr) σ)) (hS : va_S A st.heap H locs) (ls : Array Slot) (hl : lv_has ls 6 [(3, .int v'), (2, .int v4), (0, .ref (ad 0)), (1, .int (nI g))]) (eJ : m_br_41 n g v x σ = (v')) (hv : v' = (-1) ∨ vp_in v' 4), W p l e (headSpec wsX4_bring ({ frames := 4, cells := 0, slots := 0, locals := 90 })).room st m ([.ref (ad 0), .int (nI g)] : List Value).toArray below meth c H locs 0 0 (MQ below (va_Qi (fun r σ' => (r, σ') = m_br g σ) (me_B D (me_T cy) A (mm_W cy ad xr)) A) ([.ref (ad 0), .int (nI g)] : List Value).toArray st 0 0 A) (F0 m 70 ls [])) → W p l e (headSpec wsX4_bring ({ frames := 4, cells := 0, slots := 0, locals := 90 })).room st m ([.ref (ad 0), .int (nI g)] : List Value).toArray below meth c H locs 0 0 (MQ below (va_Qi (fun r σ' => (r, σ') = m_br g σ) (me_B D (me_T cy) A (mm_W cy ad xr)) A) ([.ref (ad 0), .int (nI g)] : List Value).toArray st 0 0 A) (F0 m 41 ls []) := by
      intro n
      induction n with
      | zero => intro v x H locs hP hD hS ls hl hv hxx hn kk41; exfalso; omega
      | succ n ih =>
        intro v x H locs hP hD hS ls hl hv hxx hn kk41
        refine lv_iload hx hb dX4_bring_41 (lv_at hl 0 rfl) ?_
        refine lv_if_lt (tgt := 70) hx hb dX4_bring_43 (by decide) (fun c43 => ?_) (fun c43 => ?_)
        ·
          exact kk41 v _ _ hP hD hS ls (lv_sub hl [1, 2, 3, 4] rfl) (by simp only [m_br_41, if_pos c43]) (hv)
        ·
          have hd := pu_dn hxx c43
          refine lv_aload_n hx hb dX4_bring_46 rfl (lv_at hl 3 rfl) ?_
          refine va_get (D := D) (ci := 4) (v := .ref (ad 10)) (C := RX4) (T := TX4) (N := 29) hx hb hts in4 hown hK hP 0 (me_get (by omega) (mm_0 cy ad _)) rfl 11 (by decide) k41 (fun _ h9 => h9) rfl dX4_bring_47 ?_
          refine lv_iload hx hb dX4_bring_50 (lv_at hl 0 rfl) ?_
          have v52 : vp_in x 4 := hd.1
          have b52 := me_inb v52
          refine me_iald hx hb hK hP 10 0 (by omega) (fun f => mm_10 cy ad f) rfl x.toNatClampNeg (me_ine v52) (by omega) (by decide) dX4_bring_52 ?_
          refine lv_iconst (v := (-1)) hx hb dX4_bring_53 (by decide) ?_
          refine lv_icmp_ne (tgt := 62) hx hb dX4_bring_54 (by decide) (fun c54 => ?_) (fun c54 => ?_)
          ·
            refine lv_iload_n hx hb dX4_bring_62 rfl (lv_at hl 1 rfl) ?_
            refine lv_istore_n (lv' := [(3, .int v), (4, .int x), (2, .int v4), (0, .ref (ad 0)), (1, .int (nI g))]) hx hb dX4_bring_63 rfl hl (by decide) rfl (fun ls hl => ?_)
            refine lv_iinc (v := x + (-1)) (lv' := [(4, .int (x + (-1))), (3, .int v), (2, .int v4), (0, .ref (ad 0)), (1, .int (nI g))]) hx hb dX4_bring_64 hl (k := 1) rfl rfl (by decide) rfl (fun ls hl => ?_)
            refine lv_goto (tgt := 41) hx hb dX4_bring_67 (by decide) ?_
            exact ih v (x + (-1)) _ _ hP hD hS ls (lv_sub hl [0, 1, 2, 3, 4] rfl) (by first | exact hv | exact Or.inr hd.1) (hd.2.1) (by have := hd.2.2; omega) (fun v' H locs hP hD hS ls hl eJ hv => kk41 v' H locs hP hD hS ls hl (by simp only [m_br_41, if_neg c43, if_neg c54]; exact eJ) hv)
          ·
            refine lv_iload hx hb dX4_bring_57 (lv_at hl 0 rfl) ?_
            refine lv_goto (tgt := 63) hx hb dX4_bring_59 (by decide) ?_
            refine lv_istore_n (lv' := [(3, .int x), (4, .int x), (2, .int v4), (0, .ref (ad 0)), (1, .int (nI g))]) hx hb dX4_bring_63 rfl hl (by decide) rfl (fun ls hl => ?_)
            refine lv_iinc (v := x + (-1)) (lv' := [(4, .int (x + (-1))), (3, .int x), (2, .int v4), (0, .ref (ad 0)), (1, .int (nI g))]) hx hb dX4_bring_64 hl (k := 1) rfl rfl (by decide) rfl (fun ls hl => ?_)
            refine lv_goto (tgt := 41) hx hb dX4_bring_67 (by decide) ?_
            exact ih x (x + (-1)) _ _ hP hD hS ls (lv_sub hl [0, 1, 2, 3, 4] rfl) (by first | exact hv | exact Or.inr hd.1) (hd.2.1) (by have := hd.2.2; omega) (fun v' H locs hP hD hS ls hl eJ hv => kk41 v' H locs hP hD hS ls hl (by simp only [m_br_41, if_neg c43, if_pos c54]; exact eJ) hv)
    refine J41 5 ((-1)) (nI 3) _ _ hP hD hS ls (lv_sub hl [0, 1, 2, 3, 4] rfl) (Or.inl rfl) (by unfold vp_in; decide) (by decide) (fun v41 H locs hP hD hS ls hl e41 hv41 => ?_)
    refine lv_iload_n hx hb dX4_bring_70 rfl (lv_at hl 0 rfl) ?_
    refine lv_istore_n (lv' := [(2, .int v41), (3, .int v41), (0, .ref (ad 0)), (1, .int (nI g))]) hx hb dX4_bring_71 rfl hl (by decide) rfl (fun ls hl => ?_)
    refine lv_iload_n hx hb dX4_bring_72 rfl (lv_at hl 1 rfl) ?_
    refine lv_iconst (v := (-1)) hx hb dX4_bring_73 (by decide) ?_
    refine lv_icmp_ne (tgt := 145) hx hb dX4_bring_74 (by decide) (fun c74 => ?_) (fun c74 => ?_)
    ·
      refine lv_aload_n hx hb dX4_bring_145 rfl (lv_at hl 2 rfl) ?_
      refine va_get (D := D) (ci := 4) (v := .ref (ad 10)) (C := RX4) (T := TX4) (N := 29) hx hb hts in4 hown hK hP 0 (me_get (by omega) (mm_0 cy ad _)) rfl 11 (by decide) k41 (fun _ h9 => h9) rfl dX4_bring_146 ?_
      refine lv_iload_n hx hb dX4_bring_149 rfl (lv_at hl 0 rfl) ?_
      refine lv_iload_n hx hb dX4_bring_150 rfl (lv_at hl 3 rfl) ?_
      have v151 : vp_in v41 4 := hv41.resolve_left c74
      have b151 := me_inb v151
      refine me_iast hx hb hK hP hD hS 10 0 (by omega) (fun f => mm_10 cy ad f) rfl v41.toNatClampNeg (me_ine v151) (by omega) (by decide) dX4_bring_151 (fun s151 H locs e151 hP hD hS => ?_)
      refine lv_aload_n hx hb dX4_bring_152 rfl (lv_at hl 2 rfl) ?_
      refine va_get (D := D) (ci := 4) (v := .ref (ad 11)) (C := RX4) (T := TX4) (N := 29) hx hb hts in4 hown hK hP 0 (me_get (by omega) (mm_0 cy ad _)) rfl 12 (by decide) k44 (fun _ h9 => h9) rfl dX4_bring_153 ?_
      refine lv_iload_n hx hb dX4_bring_156 rfl (lv_at hl 0 rfl) ?_
      refine lv_aload_n hx hb dX4_bring_157 rfl (lv_at hl 2 rfl) ?_
      refine va_get (D := D) (ci := 4) (v := .ref (ad 1)) (C := RX4) (T := TX4) (N := 29) hx hb hts in4 hown hK hP 0 (me_get (by omega) (mm_0 cy ad _)) rfl 1 (by decide) k7 (fun _ h9 => h9) rfl dX4_bring_158 ?_
      refine lv_iconst (v := nI 4) hx hb dX4_bring_161 (by decide) ?_
      refine lv_iload_n hx hb dX4_bring_162 rfl (lv_at hl 3 rfl) ?_
      refine lv_imul hx hb dX4_bring_163 ?_
      refine me_top (pk_mul _ _) ?_
      refine me_iald hx hb hK hP 1 0 (by omega) (fun f => mm_1 cy ad f) rfl (4 * g) rfl (by omega) (by decide) dX4_bring_164 ?_
      have v165 : vp_in v41 4 := hv41.resolve_left c74
      have b165 := me_inb v165
      refine me_iast hx hb hK hP hD hS 11 0 (by omega) (fun f => mm_11 cy ad f) rfl v41.toNatClampNeg (me_ine v165) (by omega) (by decide) dX4_bring_165 (fun s165 H locs e165 hP hD hS => ?_)
      refine lv_aload_n hx hb dX4_bring_166 rfl (lv_at hl 2 rfl) ?_
      refine va_get (D := D) (ci := 4) (v := .ref (ad 12)) (C := RX4) (T := TX4) (N := 29) hx hb hts in4 hown hK hP 0 (me_get (by omega) (mm_0 cy ad _)) rfl 13 (by decide) k47 (fun _ h9 => h9) rfl dX4_bring_167 ?_
      refine lv_iload_n hx hb dX4_bring_170 rfl (lv_at hl 0 rfl) ?_
      refine lv_iconst (v := nI 0) hx hb dX4_bring_171 (by decide) ?_
      have v172 : vp_in v41 4 := hv41.resolve_left c74
      have b172 := me_inb v172
      refine me_zast hx hb hK hP hD hS 12 1 (by omega) (fun f => mm_12 cy ad f) rfl v41.toNatClampNeg (me_ine v172) (by omega) (by decide) (by decide) dX4_bring_172 (fun s172 H locs e172 hP hD hS => ?_)
      refine lv_iconst (v := nI 0) hx hb dX4_bring_173 (by decide) ?_
      refine lv_istore (lv' := [(4, .int (nI 0)), (2, .int v41), (3, .int v41), (0, .ref (ad 0)), (1, .int (nI g))]) hx hb dX4_bring_174 hl (by decide) rfl (fun ls hl => ?_)
      have J176 : ∀ (n : Nat) (w : Int32) (i : Nat) (s : me_M) (H : Heap) (locs : List Loc) (hP : va_P D vwCl ((mm_W cy ad xr) s) H) (hD : va_D A ((mm_W cy ad xr) s)) (hS : va_S A st.heap H locs) (ls : Array Slot) (hl : lv_has ls 6 [(4, .int (nI i)), (2, .int w), (0, .ref (ad 0)), (1, .int (nI g))]), ∀ (hw : vp_in w 4), ∀ (hi : i ≤ 16), ∀ (hn : 17 ≤ i + n), (∀  (s' : me_M) (H : Heap) (locs : List Loc) (hP : va_P D vwCl ((mm_W cy ad xr) s') H) (hD : va_D A ((mm_W cy ad xr) s')) (hS : va_S A st.heap H locs) (ls : Array Slot) (hl : lv_has ls 6 [(2, .int w), (0, .ref (ad 0)), (1, .int (nI g))]) (eJ : m_br_176 n g w i s = (s')) , W p l e (headSpec wsX4_bring ({ frames := 4, cells := 0, slots := 0, locals := 90 })).room st m ([.ref (ad 0), .int (nI g)] : List Value).toArray below meth c H locs 0 0 (MQ below (va_Qi (fun r σ' => (r, σ') = m_br g σ) (me_B D (me_T cy) A (mm_W cy ad xr)) A) ([.ref (ad 0), .int (nI g)] : List Value).toArray st 0 0 A) (F0 m 213 ls [])) → W p l e (headSpec wsX4_bring ({ frames := 4, cells := 0, slots := 0, locals := 90 })).room st m ([.ref (ad 0), .int (nI g)] : List Value).toArray below meth c H locs 0 0 (MQ below (va_Qi (fun r σ' => (r, σ') = m_br g σ) (me_B D (me_T cy) A (mm_W cy ad xr)) A) ([.ref (ad 0), .int (nI g)] : List Value).toArray st 0 0 A) (F0 m 176 ls []) := by
        intro n
        induction n with
        | zero => intro w i s H locs hP hD hS ls hl hw hi hn kk176; exfalso; omega
        | succ n ih =>
          intro w i s H locs hP hD hS ls hl hw hi hn kk176
          refine lv_iload hx hb dX4_bring_176 (lv_at hl 0 rfl) ?_
          refine lv_bipush (v := nI 16) hx hb dX4_bring_178 (by decide) ?_
          refine lv_icmp_ge (tgt := 213) hx hb dX4_bring_180 (by decide) (fun c180 => ?_) (fun c180 => ?_)
          ·
            try have h180 := (nI_leI (by omega) (by omega)).mp c180
            exact kk176  s _ _ hP hD hS ls (lv_sub hl [1, 2, 3] rfl) (by simp only [m_br_176, if_pos c180]) 
          ·
            try have h180 := (not_congr (nI_leI (by omega) (by omega))).mp c180
            refine lv_aload_n hx hb dX4_bring_183 rfl (lv_at hl 2 rfl) ?_
            refine va_get (D := D) (ci := 4) (v := .ref (ad 14)) (C := RX4) (T := TX4) (N := 29) hx hb hts in4 hown hK hP 0 (me_get (by omega) (mm_0 cy ad _)) rfl 15 (by decide) k54 (fun _ h9 => h9) rfl dX4_bring_184 ?_
            refine lv_bipush (v := nI 16) hx hb dX4_bring_187 (by decide) ?_
            refine lv_iload_n hx hb dX4_bring_189 rfl (lv_at hl 1 rfl) ?_
            have b189 := me_inb hw
            refine me_top (me_ine hw) ?_
            refine lv_imul hx hb dX4_bring_190 ?_
            refine me_top (pk_mul _ _) ?_
            refine lv_iload hx hb dX4_bring_191 (lv_at hl 0 rfl) ?_
            refine lv_iadd hx hb dX4_bring_193 ?_
            refine me_top (nI_add _ _) ?_
            refine lv_aload_n hx hb dX4_bring_194 rfl (lv_at hl 2 rfl) ?_
            refine va_get (D := D) (ci := 4) (v := .ref (ad 2)) (C := RX4) (T := TX4) (N := 29) hx hb hts in4 hown hK hP 0 (me_get (by omega) (mm_0 cy ad _)) rfl 2 (by decide) k13 (fun _ h9 => h9) rfl dX4_bring_195 ?_
            refine lv_bipush (v := nI 16) hx hb dX4_bring_198 (by decide) ?_
            refine lv_iload_n hx hb dX4_bring_200 rfl (lv_at hl 3 rfl) ?_
            refine lv_imul hx hb dX4_bring_201 ?_
            refine me_top (pk_mul _ _) ?_
            refine lv_iload hx hb dX4_bring_202 (lv_at hl 0 rfl) ?_
            refine lv_iadd hx hb dX4_bring_204 ?_
            refine me_top (nI_add _ _) ?_
            refine me_iald hx hb hK hP 2 0 (by omega) (fun f => mm_2 cy ad f) rfl (16 * g + i) rfl (by omega) (by decide) dX4_bring_205 ?_
            refine me_iast hx hb hK hP hD hS 14 0 (by omega) (fun f => mm_14 cy ad f) rfl (16 * w.toNatClampNeg + i) rfl (by omega) (by decide) dX4_bring_206 (fun s206 H locs e206 hP hD hS => ?_)
            refine lv_iinc (v := nI (i + 1)) (lv' := [(4, .int (nI (i + 1))), (2, .int w), (0, .ref (ad 0)), (1, .int (nI g))]) hx hb dX4_bring_207 hl (k := 0) rfl (me_inc _) (by decide) rfl (fun ls hl => ?_)
            refine lv_goto (tgt := 176) hx hb dX4_bring_210 (by decide) ?_
            exact ih w (i + 1) s206 _ _ hP hD hS ls (lv_sub hl [0, 1, 2, 3] rfl) (hw) (by omega) (by omega) (fun  s' H locs hP hD hS ls hl eJ  => kk176  s' H locs hP hD hS ls hl (by simp only [m_br_176, if_neg c180, e206]; exact eJ) )
      refine J176 17 v41 0 s172 _ _ hP hD hS ls (lv_sub hl [0, 1, 3, 4] rfl) (by first | exact hv41.resolve_left c74 | exact vp_in_nI hv83 (by decide)) (by omega) (by omega) (fun  s176 H locs hP hD hS ls hl e176  => ?_)
      refine lv_aload_n hx hb dX4_bring_213 rfl (lv_at hl 1 rfl) ?_
      refine lv_dup hx hb dX4_bring_214 rfl ?_
      refine va_get (D := D) (ci := 4) (v := .int (s176 0 16)) (C := RX4) (T := TX4) (N := 29) hx hb hts in4 hown hK hP 0 (me_get (by omega) (mm_0 cy ad _)) rfl 16 (by decide) k113 (fun _ h9 => h9) rfl dX4_bring_215 ?_
      refine lv_iconst (v := nI 1) hx hb dX4_bring_218 (by decide) ?_
      refine lv_iadd hx hb dX4_bring_219 ?_
      refine me_put (ty := .int) (ci := 4) (C := RX4) (T := TX4) (M := 29) hx hb hts in4 tyX4 tyX4_ok nmX4 hown hK hP hD hS 0 (by omega) (mm_0 cy ad _) rfl 16 (by decide) k113 (fun _ h9 => h9) rfl (by decide +kernel) rfl rfl (Nat.le_of_ble_eq_true rfl) (mm_0 cy ad _) dX4_bring_220 (fun s220 H locs e220 hP hD hS => ?_)
      refine lv_aload_n hx hb dX4_bring_223 rfl (lv_at hl 1 rfl) ?_
      refine va_get (D := D) (ci := 4) (v := .ref (ad 13)) (C := RX4) (T := TX4) (N := 29) hx hb hts in4 hown hK hP 0 (me_get (by omega) (mm_0 cy ad _)) rfl 14 (by decide) k51 (fun _ h9 => h9) rfl dX4_bring_224 ?_
      refine lv_iload_n hx hb dX4_bring_227 rfl (lv_at hl 0 rfl) ?_
      refine lv_aload_n hx hb dX4_bring_228 rfl (lv_at hl 1 rfl) ?_
      refine va_get (D := D) (ci := 4) (v := .int (s220 0 16)) (C := RX4) (T := TX4) (N := 29) hx hb hts in4 hown hK hP 0 (me_get (by omega) (mm_0 cy ad _)) rfl 16 (by decide) k113 (fun _ h9 => h9) rfl dX4_bring_229 ?_
      have v232 : vp_in v41 4 := by first | exact hv4.resolve_left c33 | exact hv41.resolve_left c74
      have b232 := me_inb v232
      refine me_iast hx hb hK hP hD hS 13 0 (by omega) (fun f => mm_13 cy ad f) rfl v41.toNatClampNeg (me_ine v232) (by omega) (by decide) dX4_bring_232 (fun s232 H locs e232 hP hD hS => ?_)
      refine lv_iload_n hx hb dX4_bring_233 rfl (lv_at hl 0 rfl) ?_
      exact me_reti hx hb hr rfl hlocks hK hP hD hS (by simp only [m_br, e4, if_pos c33, e41, if_neg c74, e151, e165, e172, e176, e220, e232]) dX4_bring_234
    ·
      refine lv_iconst (v := nI 0) hx hb dX4_bring_77 (by decide) ?_
      refine lv_istore (lv' := [(4, .int (nI 0)), (2, .int v41), (3, .int v41), (0, .ref (ad 0)), (1, .int (nI g))]) hx hb dX4_bring_78 hl (by decide) rfl (fun ls hl => ?_)
      refine lv_iconst (v := nI 1) hx hb dX4_bring_80 (by decide) ?_
      refine lv_istore (lv' := [(5, .int (nI 1)), (4, .int (nI 0)), (2, .int v41), (3, .int v41), (0, .ref (ad 0)), (1, .int (nI g))]) hx hb dX4_bring_81 hl (by decide) rfl (fun ls hl => ?_)
      have J83 : ∀ (n : Nat) (v : Nat) (i : Nat) (H : Heap) (locs : List Loc) (hP : va_P D vwCl ((mm_W cy ad xr) σ) H) (hD : va_D A ((mm_W cy ad xr) σ)) (hS : va_S A st.heap H locs) (ls : Array Slot) (hl : lv_has ls 6 [(5, .int (nI i)), (4, .int (nI v)), (2, .int v41), (3, .int v41), (0, .ref (ad 0)), (1, .int (nI g))]), ∀ (hv : v < 4), ∀ (hi : 1 ≤ i ∧ i ≤ 4), ∀ (hn : 5 ≤ i + n), (∀ (v' : Nat) (H : Heap) (locs : List Loc) (hP : va_P D vwCl ((mm_W cy ad xr) σ) H) (hD : va_D A ((mm_W cy ad xr) σ)) (hS : va_S A st.heap H locs) (ls : Array Slot) (hl : lv_has ls 6 [(4, .int (nI v')), (2, .int v41), (3, .int v41), (0, .ref (ad 0)), (1, .int (nI g))]) (eJ : m_br_83 n g v i σ = (v')) (hv : v' < 4), W p l e (headSpec wsX4_bring ({ frames := 4, cells := 0, slots := 0, locals := 90 })).room st m ([.ref (ad 0), .int (nI g)] : List Value).toArray below meth c H locs 0 0 (MQ below (va_Qi (fun r σ' => (r, σ') = m_br g σ) (me_B D (me_T cy) A (mm_W cy ad xr)) A) ([.ref (ad 0), .int (nI g)] : List Value).toArray st 0 0 A) (F0 m 121 ls [])) → W p l e (headSpec wsX4_bring ({ frames := 4, cells := 0, slots := 0, locals := 90 })).room st m ([.ref (ad 0), .int (nI g)] : List Value).toArray below meth c H locs 0 0 (MQ below (va_Qi (fun r σ' => (r, σ') = m_br g σ) (me_B D (me_T cy) A (mm_W cy ad xr)) A) ([.ref (ad 0), .int (nI g)] : List Value).toArray st 0 0 A) (F0 m 83 ls []) := by
        intro n
        induction n with
        | zero => intro v i H locs hP hD hS ls hl hv hi hn kk83; exfalso; omega
        | succ n ih =>
          intro v i H locs hP hD hS ls hl hv hi hn kk83
          refine lv_iload hx hb dX4_bring_83 (lv_at hl 0 rfl) ?_
          refine lv_iconst (v := nI 4) hx hb dX4_bring_85 (by decide) ?_
          refine lv_icmp_ge (tgt := 121) hx hb dX4_bring_86 (by decide) (fun c86 => ?_) (fun c86 => ?_)
          ·
            try have h86 := (nI_leI (by omega) (by omega)).mp c86
            exact kk83 v _ _ hP hD hS ls (lv_sub hl [1, 2, 3, 4, 5] rfl) (by simp only [m_br_83, if_pos c86]) (by omega)
          ·
            try have h86 := (not_congr (nI_leI (by omega) (by omega))).mp c86
            refine lv_aload_n hx hb dX4_bring_89 rfl (lv_at hl 4 rfl) ?_
            refine va_get (D := D) (ci := 4) (v := .ref (ad 13)) (C := RX4) (T := TX4) (N := 29) hx hb hts in4 hown hK hP 0 (me_get (by omega) (mm_0 cy ad _)) rfl 14 (by decide) k51 (fun _ h9 => h9) rfl dX4_bring_90 ?_
            refine lv_iload hx hb dX4_bring_93 (lv_at hl 0 rfl) ?_
            refine me_iald hx hb hK hP 13 0 (by omega) (fun f => mm_13 cy ad f) rfl i rfl (by omega) (by decide) dX4_bring_95 ?_
            refine lv_aload_n hx hb dX4_bring_96 rfl (lv_at hl 4 rfl) ?_
            refine va_get (D := D) (ci := 4) (v := .ref (ad 13)) (C := RX4) (T := TX4) (N := 29) hx hb hts in4 hown hK hP 0 (me_get (by omega) (mm_0 cy ad _)) rfl 14 (by decide) k51 (fun _ h9 => h9) rfl dX4_bring_97 ?_
            refine lv_iload hx hb dX4_bring_100 (lv_at hl 1 rfl) ?_
            refine me_iald hx hb hK hP 13 0 (by omega) (fun f => mm_13 cy ad f) rfl v rfl (by omega) (by decide) dX4_bring_102 ?_
            refine lv_icmp_ge (tgt := 111) hx hb dX4_bring_103 (by decide) (fun c103 => ?_) (fun c103 => ?_)
            ·
              refine lv_iload hx hb dX4_bring_111 (lv_at hl 1 rfl) ?_
              refine lv_istore (lv' := [(4, .int (nI v)), (5, .int (nI i)), (2, .int v41), (3, .int v41), (0, .ref (ad 0)), (1, .int (nI g))]) hx hb dX4_bring_113 hl (by decide) rfl (fun ls hl => ?_)
              refine lv_iinc (v := nI (i + 1)) (lv' := [(5, .int (nI (i + 1))), (4, .int (nI v)), (2, .int v41), (3, .int v41), (0, .ref (ad 0)), (1, .int (nI g))]) hx hb dX4_bring_115 hl (k := 1) rfl (me_inc _) (by decide) rfl (fun ls hl => ?_)
              refine lv_goto (tgt := 83) hx hb dX4_bring_118 (by decide) ?_
              exact ih v (i + 1) _ _ hP hD hS ls (lv_sub hl [0, 1, 2, 3, 4, 5] rfl) (by omega) (by omega) (by omega) (fun v' H locs hP hD hS ls hl eJ hv => kk83 v' H locs hP hD hS ls hl (by simp only [m_br_83, if_neg c86, if_pos c103]; exact eJ) hv)
            ·
              refine lv_iload hx hb dX4_bring_106 (lv_at hl 0 rfl) ?_
              refine lv_goto (tgt := 113) hx hb dX4_bring_108 (by decide) ?_
              refine lv_istore (lv' := [(4, .int (nI i)), (5, .int (nI i)), (2, .int v41), (3, .int v41), (0, .ref (ad 0)), (1, .int (nI g))]) hx hb dX4_bring_113 hl (by decide) rfl (fun ls hl => ?_)
              refine lv_iinc (v := nI (i + 1)) (lv' := [(5, .int (nI (i + 1))), (4, .int (nI i)), (2, .int v41), (3, .int v41), (0, .ref (ad 0)), (1, .int (nI g))]) hx hb dX4_bring_115 hl (k := 1) rfl (me_inc _) (by decide) rfl (fun ls hl => ?_)
              refine lv_goto (tgt := 83) hx hb dX4_bring_118 (by decide) ?_
              exact ih i (i + 1) _ _ hP hD hS ls (lv_sub hl [0, 1, 2, 3, 4, 5] rfl) (by omega) (by omega) (by omega) (fun v' H locs hP hD hS ls hl eJ hv => kk83 v' H locs hP hD hS ls hl (by simp only [m_br_83, if_neg c86, if_neg c103]; exact eJ) hv)
      refine J83 4 0 1 _ _ hP hD hS ls (lv_sub hl [0, 1, 2, 3, 4, 5] rfl) (by omega) (by omega) (by omega) (fun v83 H locs hP hD hS ls hl e83 hv83 => ?_)
      refine lv_aload_n hx hb dX4_bring_121 rfl (lv_at hl 3 rfl) ?_
      refine va_get (D := D) (ci := 4) (v := .ref (ad 12)) (C := RX4) (T := TX4) (N := 29) hx hb hts in4 hown hK hP 0 (me_get (by omega) (mm_0 cy ad _)) rfl 13 (by decide) k47 (fun _ h9 => h9) rfl dX4_bring_122 ?_
      refine lv_iload hx hb dX4_bring_125 (lv_at hl 0 rfl) ?_
      refine me_zald hx hb hK hP 12 1 (by omega) (fun f => mm_12 cy ad f) rfl v83 rfl (by omega) (by decide) dX4_bring_127 ?_
      refine lv_if_eq (tgt := 142) hx hb dX4_bring_128 (by decide) (fun c128 => ?_) (fun c128 => ?_)
      ·
        refine lv_iload hx hb dX4_bring_142 (lv_at hl 0 rfl) ?_
        refine lv_istore_n (lv' := [(2, .int (nI v83)), (4, .int (nI v83)), (3, .int v41), (0, .ref (ad 0)), (1, .int (nI g))]) hx hb dX4_bring_144 rfl hl (by decide) rfl (fun ls hl => ?_)
        refine lv_aload_n hx hb dX4_bring_145 rfl (lv_at hl 3 rfl) ?_
        refine va_get (D := D) (ci := 4) (v := .ref (ad 10)) (C := RX4) (T := TX4) (N := 29) hx hb hts in4 hown hK hP 0 (me_get (by omega) (mm_0 cy ad _)) rfl 11 (by decide) k41 (fun _ h9 => h9) rfl dX4_bring_146 ?_
        refine lv_iload_n hx hb dX4_bring_149 rfl (lv_at hl 0 rfl) ?_
        refine lv_iload_n hx hb dX4_bring_150 rfl (lv_at hl 4 rfl) ?_
        refine me_iast hx hb hK hP hD hS 10 0 (by omega) (fun f => mm_10 cy ad f) rfl v83 rfl (by omega) (by decide) dX4_bring_151 (fun s151 H locs e151 hP hD hS => ?_)
        refine lv_aload_n hx hb dX4_bring_152 rfl (lv_at hl 3 rfl) ?_
        refine va_get (D := D) (ci := 4) (v := .ref (ad 11)) (C := RX4) (T := TX4) (N := 29) hx hb hts in4 hown hK hP 0 (me_get (by omega) (mm_0 cy ad _)) rfl 12 (by decide) k44 (fun _ h9 => h9) rfl dX4_bring_153 ?_
        refine lv_iload_n hx hb dX4_bring_156 rfl (lv_at hl 0 rfl) ?_
        refine lv_aload_n hx hb dX4_bring_157 rfl (lv_at hl 3 rfl) ?_
        refine va_get (D := D) (ci := 4) (v := .ref (ad 1)) (C := RX4) (T := TX4) (N := 29) hx hb hts in4 hown hK hP 0 (me_get (by omega) (mm_0 cy ad _)) rfl 1 (by decide) k7 (fun _ h9 => h9) rfl dX4_bring_158 ?_
        refine lv_iconst (v := nI 4) hx hb dX4_bring_161 (by decide) ?_
        refine lv_iload_n hx hb dX4_bring_162 rfl (lv_at hl 4 rfl) ?_
        refine lv_imul hx hb dX4_bring_163 ?_
        refine me_top (pk_mul _ _) ?_
        refine me_iald hx hb hK hP 1 0 (by omega) (fun f => mm_1 cy ad f) rfl (4 * g) rfl (by omega) (by decide) dX4_bring_164 ?_
        refine me_iast hx hb hK hP hD hS 11 0 (by omega) (fun f => mm_11 cy ad f) rfl v83 rfl (by omega) (by decide) dX4_bring_165 (fun s165 H locs e165 hP hD hS => ?_)
        refine lv_aload_n hx hb dX4_bring_166 rfl (lv_at hl 3 rfl) ?_
        refine va_get (D := D) (ci := 4) (v := .ref (ad 12)) (C := RX4) (T := TX4) (N := 29) hx hb hts in4 hown hK hP 0 (me_get (by omega) (mm_0 cy ad _)) rfl 13 (by decide) k47 (fun _ h9 => h9) rfl dX4_bring_167 ?_
        refine lv_iload_n hx hb dX4_bring_170 rfl (lv_at hl 0 rfl) ?_
        refine lv_iconst (v := nI 0) hx hb dX4_bring_171 (by decide) ?_
        refine me_zast hx hb hK hP hD hS 12 1 (by omega) (fun f => mm_12 cy ad f) rfl v83 rfl (by omega) (by decide) (by decide) dX4_bring_172 (fun s172 H locs e172 hP hD hS => ?_)
        refine lv_iconst (v := nI 0) hx hb dX4_bring_173 (by decide) ?_
        refine lv_istore (lv' := [(4, .int (nI 0)), (2, .int (nI v83)), (3, .int v41), (0, .ref (ad 0)), (1, .int (nI g))]) hx hb dX4_bring_174 hl (by decide) rfl (fun ls hl => ?_)
        have J176 : ∀ (n : Nat) (w : Int32) (i : Nat) (s : me_M) (H : Heap) (locs : List Loc) (hP : va_P D vwCl ((mm_W cy ad xr) s) H) (hD : va_D A ((mm_W cy ad xr) s)) (hS : va_S A st.heap H locs) (ls : Array Slot) (hl : lv_has ls 6 [(4, .int (nI i)), (2, .int w), (0, .ref (ad 0)), (1, .int (nI g))]), ∀ (hw : vp_in w 4), ∀ (hi : i ≤ 16), ∀ (hn : 17 ≤ i + n), (∀  (s' : me_M) (H : Heap) (locs : List Loc) (hP : va_P D vwCl ((mm_W cy ad xr) s') H) (hD : va_D A ((mm_W cy ad xr) s')) (hS : va_S A st.heap H locs) (ls : Array Slot) (hl : lv_has ls 6 [(2, .int w), (0, .ref (ad 0)), (1, .int (nI g))]) (eJ : m_br_176 n g w i s = (s')) , W p l e (headSpec wsX4_bring ({ frames := 4, cells := 0, slots := 0, locals := 90 })).room st m ([.ref (ad 0), .int (nI g)] : List Value).toArray below meth c H locs 0 0 (MQ below (va_Qi (fun r σ' => (r, σ') = m_br g σ) (me_B D (me_T cy) A (mm_W cy ad xr)) A) ([.ref (ad 0), .int (nI g)] : List Value).toArray st 0 0 A) (F0 m 213 ls [])) → W p l e (headSpec wsX4_bring ({ frames := 4, cells := 0, slots := 0, locals := 90 })).room st m ([.ref (ad 0), .int (nI g)] : List Value).toArray below meth c H locs 0 0 (MQ below (va_Qi (fun r σ' => (r, σ') = m_br g σ) (me_B D (me_T cy) A (mm_W cy ad xr)) A) ([.ref (ad 0), .int (nI g)] : List Value).toArray st 0 0 A) (F0 m 176 ls []) := by
          intro n
          induction n with
          | zero => intro w i s H locs hP hD hS ls hl hw hi hn kk176; exfalso; omega
          | succ n ih =>
            intro w i s H locs hP hD hS ls hl hw hi hn kk176
            refine lv_iload hx hb dX4_bring_176 (lv_at hl 0 rfl) ?_
            refine lv_bipush (v := nI 16) hx hb dX4_bring_178 (by decide) ?_
            refine lv_icmp_ge (tgt := 213) hx hb dX4_bring_180 (by decide) (fun c180 => ?_) (fun c180 => ?_)
            ·
              try have h180 := (nI_leI (by omega) (by omega)).mp c180
              exact kk176  s _ _ hP hD hS ls (lv_sub hl [1, 2, 3] rfl) (by simp only [m_br_176, if_pos c180]) 
            ·
              try have h180 := (not_congr (nI_leI (by omega) (by omega))).mp c180
              refine lv_aload_n hx hb dX4_bring_183 rfl (lv_at hl 2 rfl) ?_
              refine va_get (D := D) (ci := 4) (v := .ref (ad 14)) (C := RX4) (T := TX4) (N := 29) hx hb hts in4 hown hK hP 0 (me_get (by omega) (mm_0 cy ad _)) rfl 15 (by decide) k54 (fun _ h9 => h9) rfl dX4_bring_184 ?_
              refine lv_bipush (v := nI 16) hx hb dX4_bring_187 (by decide) ?_
              refine lv_iload_n hx hb dX4_bring_189 rfl (lv_at hl 1 rfl) ?_
              have b189 := me_inb hw
              refine me_top (me_ine hw) ?_
              refine lv_imul hx hb dX4_bring_190 ?_
              refine me_top (pk_mul _ _) ?_
              refine lv_iload hx hb dX4_bring_191 (lv_at hl 0 rfl) ?_
              refine lv_iadd hx hb dX4_bring_193 ?_
              refine me_top (nI_add _ _) ?_
              refine lv_aload_n hx hb dX4_bring_194 rfl (lv_at hl 2 rfl) ?_
              refine va_get (D := D) (ci := 4) (v := .ref (ad 2)) (C := RX4) (T := TX4) (N := 29) hx hb hts in4 hown hK hP 0 (me_get (by omega) (mm_0 cy ad _)) rfl 2 (by decide) k13 (fun _ h9 => h9) rfl dX4_bring_195 ?_
              refine lv_bipush (v := nI 16) hx hb dX4_bring_198 (by decide) ?_
              refine lv_iload_n hx hb dX4_bring_200 rfl (lv_at hl 3 rfl) ?_
              refine lv_imul hx hb dX4_bring_201 ?_
              refine me_top (pk_mul _ _) ?_
              refine lv_iload hx hb dX4_bring_202 (lv_at hl 0 rfl) ?_
              refine lv_iadd hx hb dX4_bring_204 ?_
              refine me_top (nI_add _ _) ?_
              refine me_iald hx hb hK hP 2 0 (by omega) (fun f => mm_2 cy ad f) rfl (16 * g + i) rfl (by omega) (by decide) dX4_bring_205 ?_
              refine me_iast hx hb hK hP hD hS 14 0 (by omega) (fun f => mm_14 cy ad f) rfl (16 * w.toNatClampNeg + i) rfl (by omega) (by decide) dX4_bring_206 (fun s206 H locs e206 hP hD hS => ?_)
              refine lv_iinc (v := nI (i + 1)) (lv' := [(4, .int (nI (i + 1))), (2, .int w), (0, .ref (ad 0)), (1, .int (nI g))]) hx hb dX4_bring_207 hl (k := 0) rfl (me_inc _) (by decide) rfl (fun ls hl => ?_)
              refine lv_goto (tgt := 176) hx hb dX4_bring_210 (by decide) ?_
              exact ih w (i + 1) s206 _ _ hP hD hS ls (lv_sub hl [0, 1, 2, 3] rfl) (hw) (by omega) (by omega) (fun  s' H locs hP hD hS ls hl eJ  => kk176  s' H locs hP hD hS ls hl (by simp only [m_br_176, if_neg c180, e206]; exact eJ) )
        refine J176 17 (nI v83) 0 s172 _ _ hP hD hS ls (lv_sub hl [0, 1, 3, 4] rfl) (by first | exact hv41.resolve_left c74 | exact vp_in_nI hv83 (by decide)) (by omega) (by omega) (fun  s176 H locs hP hD hS ls hl e176  => ?_)
        refine lv_aload_n hx hb dX4_bring_213 rfl (lv_at hl 1 rfl) ?_
        refine lv_dup hx hb dX4_bring_214 rfl ?_
        refine va_get (D := D) (ci := 4) (v := .int (s176 0 16)) (C := RX4) (T := TX4) (N := 29) hx hb hts in4 hown hK hP 0 (me_get (by omega) (mm_0 cy ad _)) rfl 16 (by decide) k113 (fun _ h9 => h9) rfl dX4_bring_215 ?_
        refine lv_iconst (v := nI 1) hx hb dX4_bring_218 (by decide) ?_
        refine lv_iadd hx hb dX4_bring_219 ?_
        refine me_put (ty := .int) (ci := 4) (C := RX4) (T := TX4) (M := 29) hx hb hts in4 tyX4 tyX4_ok nmX4 hown hK hP hD hS 0 (by omega) (mm_0 cy ad _) rfl 16 (by decide) k113 (fun _ h9 => h9) rfl (by decide +kernel) rfl rfl (Nat.le_of_ble_eq_true rfl) (mm_0 cy ad _) dX4_bring_220 (fun s220 H locs e220 hP hD hS => ?_)
        refine lv_aload_n hx hb dX4_bring_223 rfl (lv_at hl 1 rfl) ?_
        refine va_get (D := D) (ci := 4) (v := .ref (ad 13)) (C := RX4) (T := TX4) (N := 29) hx hb hts in4 hown hK hP 0 (me_get (by omega) (mm_0 cy ad _)) rfl 14 (by decide) k51 (fun _ h9 => h9) rfl dX4_bring_224 ?_
        refine lv_iload_n hx hb dX4_bring_227 rfl (lv_at hl 0 rfl) ?_
        refine lv_aload_n hx hb dX4_bring_228 rfl (lv_at hl 1 rfl) ?_
        refine va_get (D := D) (ci := 4) (v := .int (s220 0 16)) (C := RX4) (T := TX4) (N := 29) hx hb hts in4 hown hK hP 0 (me_get (by omega) (mm_0 cy ad _)) rfl 16 (by decide) k113 (fun _ h9 => h9) rfl dX4_bring_229 ?_
        refine me_iast hx hb hK hP hD hS 13 0 (by omega) (fun f => mm_13 cy ad f) rfl v83 rfl (by omega) (by decide) dX4_bring_232 (fun s232 H locs e232 hP hD hS => ?_)
        refine lv_iload_n hx hb dX4_bring_233 rfl (lv_at hl 0 rfl) ?_
        exact me_reti hx hb hr rfl hlocks hK hP hD hS (by simp only [m_br, e4, if_pos c33, e41, if_pos c74, e83, if_pos c128, e151, e165, e172, e176, e220, e232]) dX4_bring_234
      ·
        refine lv_aload_n hx hb dX4_bring_131 rfl (lv_at hl 3 rfl) ?_
        refine lv_iload hx hb dX4_bring_132 (lv_at hl 0 rfl) ?_
        refine me_calli (f := m_cl (nI v83) σ) (w := (mm_W cy ad xr)) (σ := σ) (As := [.int (nI v83)]) (rest := []) ⟨hx, hb, hml, hown, hts⟩ (fun sz => c_X4_clean l D cy ad xr (nI v83) σ (hI) sz) (cwV 1 hts gX4_bring_X4_clean rfl rfl rfl (by decide +kernel) ⟨Nat.le_of_ble_eq_true rfl, Nat.le_of_ble_eq_true rfl⟩) (va_recv hK hP (ci := 4) (q0 := 0) rfl (me_get (by omega) (mm_0 cy ad _))) hK hP hD hS hA rfl hl.1 rfl (Nat.le_of_ble_eq_true rfl) dX4_bring_134 ⟨Nat.zero_le _, Nat.zero_le _⟩ (fun r134 s134 H locs e134 hP hD hS => ?_)
        refine lv_if_ne (tgt := 142) hx hb dX4_bring_137 (by decide) (fun c137 => ?_) (fun c137 => ?_)
        ·
          refine lv_iload hx hb dX4_bring_142 (lv_at hl 0 rfl) ?_
          refine lv_istore_n (lv' := [(2, .int (nI v83)), (4, .int (nI v83)), (3, .int v41), (0, .ref (ad 0)), (1, .int (nI g))]) hx hb dX4_bring_144 rfl hl (by decide) rfl (fun ls hl => ?_)
          refine lv_aload_n hx hb dX4_bring_145 rfl (lv_at hl 3 rfl) ?_
          refine va_get (D := D) (ci := 4) (v := .ref (ad 10)) (C := RX4) (T := TX4) (N := 29) hx hb hts in4 hown hK hP 0 (me_get (by omega) (mm_0 cy ad _)) rfl 11 (by decide) k41 (fun _ h9 => h9) rfl dX4_bring_146 ?_
          refine lv_iload_n hx hb dX4_bring_149 rfl (lv_at hl 0 rfl) ?_
          refine lv_iload_n hx hb dX4_bring_150 rfl (lv_at hl 4 rfl) ?_
          refine me_iast hx hb hK hP hD hS 10 0 (by omega) (fun f => mm_10 cy ad f) rfl v83 rfl (by omega) (by decide) dX4_bring_151 (fun s151 H locs e151 hP hD hS => ?_)
          refine lv_aload_n hx hb dX4_bring_152 rfl (lv_at hl 3 rfl) ?_
          refine va_get (D := D) (ci := 4) (v := .ref (ad 11)) (C := RX4) (T := TX4) (N := 29) hx hb hts in4 hown hK hP 0 (me_get (by omega) (mm_0 cy ad _)) rfl 12 (by decide) k44 (fun _ h9 => h9) rfl dX4_bring_153 ?_
          refine lv_iload_n hx hb dX4_bring_156 rfl (lv_at hl 0 rfl) ?_
          refine lv_aload_n hx hb dX4_bring_157 rfl (lv_at hl 3 rfl) ?_
          refine va_get (D := D) (ci := 4) (v := .ref (ad 1)) (C := RX4) (T := TX4) (N := 29) hx hb hts in4 hown hK hP 0 (me_get (by omega) (mm_0 cy ad _)) rfl 1 (by decide) k7 (fun _ h9 => h9) rfl dX4_bring_158 ?_
          refine lv_iconst (v := nI 4) hx hb dX4_bring_161 (by decide) ?_
          refine lv_iload_n hx hb dX4_bring_162 rfl (lv_at hl 4 rfl) ?_
          refine lv_imul hx hb dX4_bring_163 ?_
          refine me_top (pk_mul _ _) ?_
          refine me_iald hx hb hK hP 1 0 (by omega) (fun f => mm_1 cy ad f) rfl (4 * g) rfl (by omega) (by decide) dX4_bring_164 ?_
          refine me_iast hx hb hK hP hD hS 11 0 (by omega) (fun f => mm_11 cy ad f) rfl v83 rfl (by omega) (by decide) dX4_bring_165 (fun s165 H locs e165 hP hD hS => ?_)
          refine lv_aload_n hx hb dX4_bring_166 rfl (lv_at hl 3 rfl) ?_
          refine va_get (D := D) (ci := 4) (v := .ref (ad 12)) (C := RX4) (T := TX4) (N := 29) hx hb hts in4 hown hK hP 0 (me_get (by omega) (mm_0 cy ad _)) rfl 13 (by decide) k47 (fun _ h9 => h9) rfl dX4_bring_167 ?_
          refine lv_iload_n hx hb dX4_bring_170 rfl (lv_at hl 0 rfl) ?_
          refine lv_iconst (v := nI 0) hx hb dX4_bring_171 (by decide) ?_
          refine me_zast hx hb hK hP hD hS 12 1 (by omega) (fun f => mm_12 cy ad f) rfl v83 rfl (by omega) (by decide) (by decide) dX4_bring_172 (fun s172 H locs e172 hP hD hS => ?_)
          refine lv_iconst (v := nI 0) hx hb dX4_bring_173 (by decide) ?_
          refine lv_istore (lv' := [(4, .int (nI 0)), (2, .int (nI v83)), (3, .int v41), (0, .ref (ad 0)), (1, .int (nI g))]) hx hb dX4_bring_174 hl (by decide) rfl (fun ls hl => ?_)
          have J176 : ∀ (n : Nat) (w : Int32) (i : Nat) (s : me_M) (H : Heap) (locs : List Loc) (hP : va_P D vwCl ((mm_W cy ad xr) s) H) (hD : va_D A ((mm_W cy ad xr) s)) (hS : va_S A st.heap H locs) (ls : Array Slot) (hl : lv_has ls 6 [(4, .int (nI i)), (2, .int w), (0, .ref (ad 0)), (1, .int (nI g))]), ∀ (hw : vp_in w 4), ∀ (hi : i ≤ 16), ∀ (hn : 17 ≤ i + n), (∀  (s' : me_M) (H : Heap) (locs : List Loc) (hP : va_P D vwCl ((mm_W cy ad xr) s') H) (hD : va_D A ((mm_W cy ad xr) s')) (hS : va_S A st.heap H locs) (ls : Array Slot) (hl : lv_has ls 6 [(2, .int w), (0, .ref (ad 0)), (1, .int (nI g))]) (eJ : m_br_176 n g w i s = (s')) , W p l e (headSpec wsX4_bring ({ frames := 4, cells := 0, slots := 0, locals := 90 })).room st m ([.ref (ad 0), .int (nI g)] : List Value).toArray below meth c H locs 0 0 (MQ below (va_Qi (fun r σ' => (r, σ') = m_br g σ) (me_B D (me_T cy) A (mm_W cy ad xr)) A) ([.ref (ad 0), .int (nI g)] : List Value).toArray st 0 0 A) (F0 m 213 ls [])) → W p l e (headSpec wsX4_bring ({ frames := 4, cells := 0, slots := 0, locals := 90 })).room st m ([.ref (ad 0), .int (nI g)] : List Value).toArray below meth c H locs 0 0 (MQ below (va_Qi (fun r σ' => (r, σ') = m_br g σ) (me_B D (me_T cy) A (mm_W cy ad xr)) A) ([.ref (ad 0), .int (nI g)] : List Value).toArray st 0 0 A) (F0 m 176 ls []) := by
            intro n
            induction n with
            | zero => intro w i s H locs hP hD hS ls hl hw hi hn kk176; exfalso; omega
            | succ n ih =>
              intro w i s H locs hP hD hS ls hl hw hi hn kk176
              refine lv_iload hx hb dX4_bring_176 (lv_at hl 0 rfl) ?_
              refine lv_bipush (v := nI 16) hx hb dX4_bring_178 (by decide) ?_
              refine lv_icmp_ge (tgt := 213) hx hb dX4_bring_180 (by decide) (fun c180 => ?_) (fun c180 => ?_)
              ·
                try have h180 := (nI_leI (by omega) (by omega)).mp c180
                exact kk176  s _ _ hP hD hS ls (lv_sub hl [1, 2, 3] rfl) (by simp only [m_br_176, if_pos c180]) 
              ·
                try have h180 := (not_congr (nI_leI (by omega) (by omega))).mp c180
                refine lv_aload_n hx hb dX4_bring_183 rfl (lv_at hl 2 rfl) ?_
                refine va_get (D := D) (ci := 4) (v := .ref (ad 14)) (C := RX4) (T := TX4) (N := 29) hx hb hts in4 hown hK hP 0 (me_get (by omega) (mm_0 cy ad _)) rfl 15 (by decide) k54 (fun _ h9 => h9) rfl dX4_bring_184 ?_
                refine lv_bipush (v := nI 16) hx hb dX4_bring_187 (by decide) ?_
                refine lv_iload_n hx hb dX4_bring_189 rfl (lv_at hl 1 rfl) ?_
                have b189 := me_inb hw
                refine me_top (me_ine hw) ?_
                refine lv_imul hx hb dX4_bring_190 ?_
                refine me_top (pk_mul _ _) ?_
                refine lv_iload hx hb dX4_bring_191 (lv_at hl 0 rfl) ?_
                refine lv_iadd hx hb dX4_bring_193 ?_
                refine me_top (nI_add _ _) ?_
                refine lv_aload_n hx hb dX4_bring_194 rfl (lv_at hl 2 rfl) ?_
                refine va_get (D := D) (ci := 4) (v := .ref (ad 2)) (C := RX4) (T := TX4) (N := 29) hx hb hts in4 hown hK hP 0 (me_get (by omega) (mm_0 cy ad _)) rfl 2 (by decide) k13 (fun _ h9 => h9) rfl dX4_bring_195 ?_
                refine lv_bipush (v := nI 16) hx hb dX4_bring_198 (by decide) ?_
                refine lv_iload_n hx hb dX4_bring_200 rfl (lv_at hl 3 rfl) ?_
                refine lv_imul hx hb dX4_bring_201 ?_
                refine me_top (pk_mul _ _) ?_
                refine lv_iload hx hb dX4_bring_202 (lv_at hl 0 rfl) ?_
                refine lv_iadd hx hb dX4_bring_204 ?_
                refine me_top (nI_add _ _) ?_
                refine me_iald hx hb hK hP 2 0 (by omega) (fun f => mm_2 cy ad f) rfl (16 * g + i) rfl (by omega) (by decide) dX4_bring_205 ?_
                refine me_iast hx hb hK hP hD hS 14 0 (by omega) (fun f => mm_14 cy ad f) rfl (16 * w.toNatClampNeg + i) rfl (by omega) (by decide) dX4_bring_206 (fun s206 H locs e206 hP hD hS => ?_)
                refine lv_iinc (v := nI (i + 1)) (lv' := [(4, .int (nI (i + 1))), (2, .int w), (0, .ref (ad 0)), (1, .int (nI g))]) hx hb dX4_bring_207 hl (k := 0) rfl (me_inc _) (by decide) rfl (fun ls hl => ?_)
                refine lv_goto (tgt := 176) hx hb dX4_bring_210 (by decide) ?_
                exact ih w (i + 1) s206 _ _ hP hD hS ls (lv_sub hl [0, 1, 2, 3] rfl) (hw) (by omega) (by omega) (fun  s' H locs hP hD hS ls hl eJ  => kk176  s' H locs hP hD hS ls hl (by simp only [m_br_176, if_neg c180, e206]; exact eJ) )
          refine J176 17 (nI v83) 0 s172 _ _ hP hD hS ls (lv_sub hl [0, 1, 3, 4] rfl) (by first | exact hv41.resolve_left c74 | exact vp_in_nI hv83 (by decide)) (by omega) (by omega) (fun  s176 H locs hP hD hS ls hl e176  => ?_)
          refine lv_aload_n hx hb dX4_bring_213 rfl (lv_at hl 1 rfl) ?_
          refine lv_dup hx hb dX4_bring_214 rfl ?_
          refine va_get (D := D) (ci := 4) (v := .int (s176 0 16)) (C := RX4) (T := TX4) (N := 29) hx hb hts in4 hown hK hP 0 (me_get (by omega) (mm_0 cy ad _)) rfl 16 (by decide) k113 (fun _ h9 => h9) rfl dX4_bring_215 ?_
          refine lv_iconst (v := nI 1) hx hb dX4_bring_218 (by decide) ?_
          refine lv_iadd hx hb dX4_bring_219 ?_
          refine me_put (ty := .int) (ci := 4) (C := RX4) (T := TX4) (M := 29) hx hb hts in4 tyX4 tyX4_ok nmX4 hown hK hP hD hS 0 (by omega) (mm_0 cy ad _) rfl 16 (by decide) k113 (fun _ h9 => h9) rfl (by decide +kernel) rfl rfl (Nat.le_of_ble_eq_true rfl) (mm_0 cy ad _) dX4_bring_220 (fun s220 H locs e220 hP hD hS => ?_)
          refine lv_aload_n hx hb dX4_bring_223 rfl (lv_at hl 1 rfl) ?_
          refine va_get (D := D) (ci := 4) (v := .ref (ad 13)) (C := RX4) (T := TX4) (N := 29) hx hb hts in4 hown hK hP 0 (me_get (by omega) (mm_0 cy ad _)) rfl 14 (by decide) k51 (fun _ h9 => h9) rfl dX4_bring_224 ?_
          refine lv_iload_n hx hb dX4_bring_227 rfl (lv_at hl 0 rfl) ?_
          refine lv_aload_n hx hb dX4_bring_228 rfl (lv_at hl 1 rfl) ?_
          refine va_get (D := D) (ci := 4) (v := .int (s220 0 16)) (C := RX4) (T := TX4) (N := 29) hx hb hts in4 hown hK hP 0 (me_get (by omega) (mm_0 cy ad _)) rfl 16 (by decide) k113 (fun _ h9 => h9) rfl dX4_bring_229 ?_
          refine me_iast hx hb hK hP hD hS 13 0 (by omega) (fun f => mm_13 cy ad f) rfl v83 rfl (by omega) (by decide) dX4_bring_232 (fun s232 H locs e232 hP hD hS => ?_)
          refine lv_iload_n hx hb dX4_bring_233 rfl (lv_at hl 0 rfl) ?_
          exact me_reti hx hb hr rfl hlocks hK hP hD hS (by simp only [m_br, e4, if_pos c33, e41, if_pos c74, e83, if_neg c128, e134, if_neg c137, e151, e165, e172, e176, e220, e232]) dX4_bring_234
        ·
          refine lv_iconst (v := (-1)) hx hb dX4_bring_140 (by decide) ?_
          exact me_reti hx hb hr rfl hlocks hK hP hD hS (by simp only [m_br, e4, if_pos c33, e41, if_pos c74, e83, if_neg c128, e134, if_pos c137]) dX4_bring_141
