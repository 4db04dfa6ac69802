def kc_N (U : State) : Prop := va_AO "TwinWrites$Place" U ∧ va_AO "TwinWrites$Change" U ∧ va_AO "TwinWrites$Frame" U ∧ va_Nw (.methodLinkNest RX3 68 yX0_init RX3) U ∧ va_Nw (.methodLinkNest RX3 69 yX1_init RX3) U
theorem kc_N.warm {s U : State} (hW : s.WarmedH U.vm) (h : kc_N s) : kc_N U := ⟨h.1.moved hW.alike, h.2.1.moved hW.alike, h.2.2.1.moved hW.alike, va_Nw.warmM hW h.2.2.2.1, va_Nw.warmM hW h.2.2.2.2⟩
theorem kc_N.same {u U : State} (hv : u.vm = U.vm) (h : kc_N u) : kc_N U := by
  have ha : u.vm.Alike U.vm := by rw [hv]; exact Vm.Alike.refl _
  exact ⟨h.1.moved ha, h.2.1.moved ha, h.2.2.1.moved ha, va_Nw.same rfl hv h.2.2.2.1, va_Nw.same rfl hv h.2.2.2.2⟩
def kc_P (D : va_G) (tys : List (ClassId × FieldType)) (w : va_W) (sz : Nat) : State → Prop := fun U => me_P D tys w sz U ∧ kc_N U
theorem kc_blind {D : va_G} {tys : List (ClassId × FieldType)} {w : va_W} {sz : Nat} {av : List Value} : FrameBlind (va_Pc av (kc_P D tys w sz)) := fun a U g mk q => by
  obtain ⟨q0, ⟨q1, qP, qK, qD⟩, qE⟩ := q
  exact ⟨q0, ⟨q1, qP, va_K.moved (u := U) (U := U.calling g mk a) (Vm.Alike.refl U.vm) qK, qD⟩, kc_N.same (u := U) (U := U.calling g mk a) rfl qE⟩
theorem kc_pre {D : va_G} {tys : List (ClassId × FieldType)} {w : va_W} {av : List Value} {A : Nat → Prop} {s : State} {H : Heap} (hN : kc_N s) (hK : va_K D vwCl tys s) (hP : va_P D vwCl w H) (hD : va_D A w) : ∀ U : State, U.heap = H → s.WarmedH U.vm → va_Pc av (kc_P D tys w H.size) av.toArray U :=
  fun U hU hW => ⟨rfl, (me_pre (av := av) hK hP hD U hU hW).2, hN.warm hW⟩
set_option maxRecDepth 100000 in
set_option maxHeartbeats 4000000 in
theorem c_X3_init (l : Launch) (D : va_G) (cy : Nat → ClassId) (q0 : Nat) (sz : Nat) : Met l yX3_init wsX3_init ({ frames := 2, cells := 101, slots := 656, locals := 34 }) (va_Pc [.ref q0] (kc_P D (me_T cy) (([] : va_W) ++ [(q0, .inr (3, [.null, .null, .null, .int 0, .int 0, .int 0, .int 0, .int 0, .int 0, .null, .null, .int 0, .int 0, .int 0, .int 0]))]) sz)) (va_Qv (fun _ => True) (fun (u : Nat → Nat) t => va_P D vwCl (kk_W cy (co_ad q0 u) [] k_0) t.heap ∧ va_K D vwCl (me_T cy) t ∧ va_D (va_A (([] : va_W) ++ [(q0, .inr (3, [.null, .null, .null, .int 0, .int 0, .int 0, .int 0, .int 0, .int 0, .null, .null, .int 0, .int 0, .int 0, .int 0]))]) sz) (kk_W cy (co_ad q0 u) [] k_0)) (va_A (([] : va_W) ++ [(q0, .inr (3, [.null, .null, .null, .int 0, .int 0, .int 0, .int 0, .int 0, .int 0, .null, .null, .int 0, .int 0, .int 0, .int 0]))]) sz)) 101 656 (va_A (([] : va_W) ++ [(q0, .inr (3, [.null, .null, .null, .int 0, .int 0, .int 0, .int 0, .int 0, .int 0, .null, .null, .int 0, .int 0, .int 0, .int 0]))]) sz) := by
  refine Met.ofW (cc := cX3_init) (maxL := 2) (ret := none) (by decide) rfl ?_
  intro p e st m args below meth c s₁ B hml hv
  obtain ⟨rfl, ⟨hsz, hP, hK, hD0⟩, hNN⟩ := hv
  have hx := B.exec
  have hb := B.bytes
  have hr := B.returns
  have hts := atoms_spec (ws := wsX3_init) B.pre
  have hown : st.vm.findClass RX3 = some m.cls := findClass_of_methodNamed B.named
  have hlocks := B.notSynchronized
  have hin : meth.name = "<init>" := (name_of_methodNamed B.named B.method).1
  have inF : ∀ w ∈ u_ws RX3 TX3 15, w ∈ wsX3_init := by decide +kernel
  have inP : ∀ w ∈ u_ws RX2 TX2 3, w ∈ wsX3_init := by decide +kernel
  have inC : ∀ w ∈ u_ws RX0 TX0 4, w ∈ wsX3_init := by decide +kernel
  have inG : ∀ w ∈ u_ws RX1 TX1 5, w ∈ wsX3_init := by decide +kernel
  subst hsz
  have hD := hD0.self (sz := st.heap.size)
  generalize hAe : va_A (([] : va_W) ++ [(q0, .inr (3, [.null, .null, .null, .int 0, .int 0, .int 0, .int 0, .int 0, .int 0, .null, .null, .int 0, .int 0, .int 0, .int 0]))]) st.heap.size = A at hD ⊢
  have hA : ∀ q : Nat, st.heap.size ≤ q → A q := fun q h => by rw [← hAe]; exact Or.inr h
  have hS : va_S A st.heap st.heap [] := va_S.rf
  have hl := lv_entry ([.ref q0]) (n := 2) (Nat.le_of_ble_eq_true rfl)
  rw [lg_entry_eq]
  generalize (lg_sl ([.ref q0]) ++ List.replicate (2 - (lg_sl ([.ref q0])).length) Slot.unset).toArray = ls at hl ⊢
  have hl : lv_has ls 2 [(0, .ref q0)] := hl
  have k11 := hts (.fieldLink RX3 11 "TwinWrites" "homes" "[LTwinWrites$Place;") (by decide +kernel)
  have k15 := hts (.fieldLink RX3 15 "TwinWrites" "slots" "[LTwinWrites$Place;") (by decide +kernel)
  have k20 := hts (.fieldLink RX3 20 "TwinWrites" "log" "[LTwinWrites$Change;") (by decide +kernel)
  have k46 := hts (.fieldLink RX3 46 "TwinWrites" "frames" "[LTwinWrites$Frame;") (by decide +kernel)
  have k50 := hts (.fieldLink RX3 50 "TwinWrites" "waiting" "[LTwinWrites$Change;") (by decide +kernel)
  have J4 : ∀ (n i : Nat) (ad : Nat → Nat) (had : ad 0 = q0) (H : Heap) (locs : List Loc) (hP : va_P D vwCl (kc_W cy ad (94 + 2 * i)) H) (hD : va_D A (kc_W cy ad (94 + 2 * i))) (hS : va_S A st.heap H locs) (ls : Array Slot) (hl : lv_has ls 2 [(1, .int (nI i)), (0, .ref q0)]), i ≤ 4 → 5 ≤ i + n → W p l e (headSpec wsX3_init ({ frames := 2, cells := 101, slots := 656, locals := 34 })).room st m ([.ref q0] : List Value).toArray below meth c H locs (93 + 2 * i) (572 + 21 * i) (MQ below (va_Qv (fun _ => True) (fun u t => va_P D vwCl (kk_W cy (co_ad q0 u) [] k_0) t.heap ∧ va_K D vwCl (me_T cy) t ∧ va_D A (kk_W cy (co_ad q0 u) [] k_0)) A) ([.ref q0] : List Value).toArray st 101 656 A) (F0 m 194 ls []) := by
    intro n
    induction n with
    | zero => intro i ad had H locs hP hD hS ls hl hi hn; exfalso; omega
    | succ n ih =>
      intro i ad had H locs hP hD hS ls hl hi hn
      refine lv_iload_n hx hb dX3_init_194 rfl (lv_at hl 0 rfl) ?_
      refine lv_iconst (v := nI 4) hx hb dX3_init_195 (by decide) ?_
      refine lv_icmp_ge (tgt := 218) hx hb dX3_init_196 (by decide) (fun c5 => ?_) (fun c5 => ?_)
      · have h5 := (nI_leI (by omega) (by omega)).mp c5
        obtain rfl : i = 4 := by omega
        have hP := kc_endP hP
        have hD := kc_endD hD
        have e9 : co_ad q0 ad = ad := by rw [← had]; exact co_ad_self ad
        exact co_ret (B := fun u => kk_W cy (co_ad q0 u) [] k_0) (u := ad) hx hb hr hlocks hK (by show va_P D vwCl (kk_W cy (co_ad q0 ad) [] k_0) _; rw [e9]; exact hP) (by show va_D A (kk_W cy (co_ad q0 ad) [] k_0); rw [e9]; exact hD) hS dX3_init_218
      · have h5 := (not_congr (nI_leI (by omega) (by omega))).mp c5
        refine lv_aload_n hx hb dX3_init_199 rfl (lv_at hl 1 rfl) ?_
        refine va_get (D := D) (ci := 3) (v := .ref (ad 4)) (C := RX3) (T := TX3) (N := 15) hx hb hts inF hown hK hP 0 (by have := kc_get cy ad [] (n := 94 + 2 * i) (i := 0) (by omega) (kc_hi cy ad (Or.inr rfl)); rw [List.append_nil, had] at this; exact this) rfl 9 (by decide) k46 (fun _ h9 => h9) rfl dX3_init_200 ?_
        refine lv_iload_n hx hb dX3_init_203 rfl (lv_at hl 0 rfl) ?_
        refine va_new (ci := 1) (fs := [.null, .int 0, .int 0, .int 0, .int 0]) (C := RX1) (T := TX1) (N := 5) hx hb hts inG tyX1 tyX1_ok hown (hts (.classLink RX3 44 RX1) (by decide +kernel)) (hts (.instantiable RX1 5) (by decide +kernel)) (hts (.initialized RX1) (by decide +kernel)) hK hP hD hS hA rfl (fun j hj => by rcases (show j = 0 ∨ j = 1 ∨ j = 2 ∨ j = 3 ∨ j = 4 by omega) with rfl | rfl | rfl | rfl | rfl <;> rfl) (by show _ ≤ 101; omega) (by show _ ≤ 656; omega) dX3_init_204 (fun q H hP hD hS => ?_)
        refine lv_dup hx hb dX3_init_207 rfl ?_
        refine co_call2 hD hS hA (va_runIN (As := []) (rest := [.ref q, .int (nI i), .ref (ad 4)]) ⟨hx, hb, hml, hown, hts⟩ (c_X1_init l D cy _ q H.size) ⟨va_cnB 0 hts gX3_init_X1_init_n69 rfl rfl rfl hNN.2.2.2.2 (hts (.initialized RX1) (by decide +kernel)) (by decide +kernel) ⟨Nat.le_of_ble_eq_true rfl, Nat.le_of_ble_eq_true rfl⟩, rfl, hts (.instanceMethod yX1_init) (by decide +kernel)⟩ ⟨me_blind, me_pre hK hP hD⟩ rfl rfl hl.1 rfl (lv_room (Nat.le_of_ble_eq_true rfl)) dX3_init_208 ⟨by show _ ≤ 101; omega, by show _ ≤ 656; omega⟩) (fun u H locs hP hD hS => ?_)
        refine va_astq (r := (RX1, TX1, 5)) hx hb hK hP hD hS 4 5 (94 + 2 * i) 1 (kc_get cy ad _ (by omega) (kc_a4 cy ad _)) rfl (kc_new cy ad _ 0 rfl) rfl (vp_in_nI (by omega) (by decide)) dX3_init_211 (fun H locs hP hD hS => ?_)
        rw [nI_clamp (by omega), kc_frame cy ad i q u (by omega)] at hP hD
        refine lv_iinc (v := nI (i + 1)) (lv' := [(1, .int (nI (i + 1))), (0, .ref q0)]) hx hb dX3_init_212 hl (k := 0) rfl (me_inc _) (by decide) rfl (fun ls hl => ?_)
        refine lv_goto (tgt := 194) hx hb dX3_init_215 (by decide) ?_
        refine W.widen (k := 93 + 2 * (i + 1)) (n := 572 + 21 * (i + 1)) (by omega) (by omega) ?_
        exact ih (i + 1) (kc_ad ad (94 + 2 * i) [q, u]) (by rw [kc_ad_lt ad _ (by omega)]; exact had) _ _ hP hD hS ls (lv_sub hl [0, 1] rfl) (by omega) (by omega)
  have J3 : ∀ (n i : Nat) (ad : Nat → Nat) (had : ad 0 = q0) (H : Heap) (locs : List Loc) (hP : va_P D vwCl (kc_W cy ad (70 + 2 * i)) H) (hD : va_D A (kc_W cy ad (70 + 2 * i))) (hS : va_S A st.heap H locs) (ls : Array Slot) (hl : lv_has ls 2 [(1, .int (nI i)), (0, .ref q0)]), i ≤ 12 → 13 ≤ i + n → W p l e (headSpec wsX3_init ({ frames := 2, cells := 101, slots := 656, locals := 34 })).room st m ([.ref q0] : List Value).toArray below meth c H locs (69 + 2 * i) (476 + 8 * i) (MQ below (va_Qv (fun _ => True) (fun u t => va_P D vwCl (kk_W cy (co_ad q0 u) [] k_0) t.heap ∧ va_K D vwCl (me_T cy) t ∧ va_D A (kk_W cy (co_ad q0 u) [] k_0)) A) ([.ref q0] : List Value).toArray st 101 656 A) (F0 m 154 ls []) := by
    intro n
    induction n with
    | zero => intro i ad had H locs hP hD hS ls hl hi hn; exfalso; omega
    | succ n ih =>
      intro i ad had H locs hP hD hS ls hl hi hn
      refine lv_iload_n hx hb dX3_init_154 rfl (lv_at hl 0 rfl) ?_
      refine lv_bipush (v := nI 12) hx hb dX3_init_155 (by decide) ?_
      refine lv_icmp_ge (tgt := 192) hx hb dX3_init_157 (by decide) (fun c5 => ?_) (fun c5 => ?_)
      · have h5 := (nI_leI (by omega) (by omega)).mp c5
        obtain rfl : i = 12 := by omega
        refine lv_iconst (v := nI 0) hx hb dX3_init_192 (by decide) ?_
        refine lv_istore_n (lv' := [(1, .int (nI 0)), (0, .ref q0)]) hx hb dX3_init_193 rfl hl (by decide) rfl (fun ls hl => ?_)
        exact J4 5 0 ad had _ _ hP hD hS ls (lv_sub hl [0, 1] rfl) (by omega) (by omega)
      · have h5 := (not_congr (nI_leI (by omega) (by omega))).mp c5
        refine lv_aload_n hx hb dX3_init_160 rfl (lv_at hl 1 rfl) ?_
        refine va_get (D := D) (ci := 3) (v := .ref (ad 3)) (C := RX3) (T := TX3) (N := 15) hx hb hts inF hown hK hP 0 (by have := kc_get cy ad [] (n := 70 + 2 * i) (i := 0) (by omega) (kc_hi cy ad (Or.inr rfl)); rw [List.append_nil, had] at this; exact this) rfl 2 (by decide) k20 (fun _ h9 => h9) rfl dX3_init_161 ?_
        refine lv_iload_n hx hb dX3_init_164 rfl (lv_at hl 0 rfl) ?_
        refine va_new (ci := 0) (fs := [.int 0, .int 0, .int 0, .int 0]) (C := RX0) (T := TX0) (N := 4) hx hb hts inC tyX0 tyX0_ok hown (hts (.classLink RX3 18 RX0) (by decide +kernel)) (hts (.instantiable RX0 4) (by decide +kernel)) (hts (.initialized RX0) (by decide +kernel)) hK hP hD hS hA rfl (fun j hj => by rcases (show j = 0 ∨ j = 1 ∨ j = 2 ∨ j = 3 by omega) with rfl | rfl | rfl | rfl <;> rfl) (by show _ ≤ 101; omega) (by show _ ≤ 656; omega) dX3_init_165 (fun q H hP hD hS => ?_)
        refine lv_dup hx hb dX3_init_168 rfl ?_
        refine co_call2 hD hS hA (va_runIN (As := []) (rest := [.ref q, .int (nI i), .ref (ad 3)]) ⟨hx, hb, hml, hown, hts⟩ (c_X0_init l D cy _ q H.size) ⟨va_cnB 0 hts gX3_init_X0_init_n68 rfl rfl rfl hNN.2.2.2.1 (hts (.initialized RX0) (by decide +kernel)) (by decide +kernel) ⟨Nat.le_of_ble_eq_true rfl, Nat.le_of_ble_eq_true rfl⟩, rfl, hts (.instanceMethod yX0_init) (by decide +kernel)⟩ ⟨me_blind, me_pre hK hP hD⟩ rfl rfl hl.1 rfl (lv_room (Nat.le_of_ble_eq_true rfl)) dX3_init_169 ⟨by show _ ≤ 101; omega, by show _ ≤ 656; omega⟩) (fun u H locs hP hD hS => ?_)
        refine va_astq (r := (RX0, TX0, 4)) hx hb hK hP hD hS 3 4 (70 + 2 * i) 0 (kc_get cy ad _ (by omega) (kc_a3 cy ad _)) rfl (kc_new cy ad _ 0 rfl) rfl (vp_in_nI (by omega) (by decide)) dX3_init_172 (fun H locs hP hD hS => ?_)
        rw [nI_clamp (by omega), kc_log cy ad i q (by omega)] at hP hD
        have had : kc_ad ad (70 + 2 * i) [q] 0 = q0 := by rw [kc_ad_lt ad _ (by omega)]; exact had
        generalize kc_ad ad (70 + 2 * i) [q] = ad at hP hD had
        refine lv_aload_n hx hb dX3_init_173 rfl (lv_at hl 1 rfl) ?_
        refine va_get (D := D) (ci := 3) (v := .ref (ad 5)) (C := RX3) (T := TX3) (N := 15) hx hb hts inF hown hK hP 0 (by have := kc_get cy ad [] (n := 70 + 2 * i + 1) (i := 0) (by omega) (kc_hi cy ad (Or.inr rfl)); rw [List.append_nil, had] at this; exact this) rfl 10 (by decide) k50 (fun _ h9 => h9) rfl dX3_init_174 ?_
        refine lv_iload_n hx hb dX3_init_177 rfl (lv_at hl 0 rfl) ?_
        refine va_new (ci := 0) (fs := [.int 0, .int 0, .int 0, .int 0]) (C := RX0) (T := TX0) (N := 4) hx hb hts inC tyX0 tyX0_ok hown (hts (.classLink RX3 18 RX0) (by decide +kernel)) (hts (.instantiable RX0 4) (by decide +kernel)) (hts (.initialized RX0) (by decide +kernel)) hK hP hD hS hA rfl (fun j hj => by rcases (show j = 0 ∨ j = 1 ∨ j = 2 ∨ j = 3 by omega) with rfl | rfl | rfl | rfl <;> rfl) (by show _ ≤ 101; omega) (by show _ ≤ 656; omega) dX3_init_178 (fun q H hP hD hS => ?_)
        refine lv_dup hx hb dX3_init_181 rfl ?_
        refine co_call2 hD hS hA (va_runIN (As := []) (rest := [.ref q, .int (nI i), .ref (ad 5)]) ⟨hx, hb, hml, hown, hts⟩ (c_X0_init l D cy _ q H.size) ⟨va_cnB 0 hts gX3_init_X0_init_n68 rfl rfl rfl hNN.2.2.2.1 (hts (.initialized RX0) (by decide +kernel)) (by decide +kernel) ⟨Nat.le_of_ble_eq_true rfl, Nat.le_of_ble_eq_true rfl⟩, rfl, hts (.instanceMethod yX0_init) (by decide +kernel)⟩ ⟨me_blind, me_pre hK hP hD⟩ rfl rfl hl.1 rfl (lv_room (Nat.le_of_ble_eq_true rfl)) dX3_init_182 ⟨by show _ ≤ 101; omega, by show _ ≤ 656; omega⟩) (fun u H locs hP hD hS => ?_)
        refine va_astq (r := (RX0, TX0, 4)) hx hb hK hP hD hS 5 4 (70 + 2 * i + 1) 0 (kc_get cy ad _ (by omega) (kc_a5 cy ad _)) rfl (kc_new cy ad _ 0 rfl) rfl (vp_in_nI (by omega) (by decide)) dX3_init_185 (fun H locs hP hD hS => ?_)
        rw [nI_clamp (by omega), kc_wait cy ad i q (by omega)] at hP hD
        refine lv_iinc (v := nI (i + 1)) (lv' := [(1, .int (nI (i + 1))), (0, .ref q0)]) hx hb dX3_init_186 hl (k := 0) rfl (me_inc _) (by decide) rfl (fun ls hl => ?_)
        refine lv_goto (tgt := 154) hx hb dX3_init_189 (by decide) ?_
        refine W.widen (k := 69 + 2 * (i + 1)) (n := 476 + 8 * (i + 1)) (by omega) (by omega) ?_
        exact ih (i + 1) (kc_ad ad (70 + 2 * i + 1) [q]) (by rw [kc_ad_lt ad _ (by omega)]; exact had) _ _ hP hD hS ls (lv_sub hl [0, 1] rfl) (by omega) (by omega)
  have J2 : ∀ (n i : Nat) (ad : Nat → Nat) (had : ad 0 = q0) (H : Heap) (locs : List Loc) (hP : va_P D vwCl (kc_W cy ad (6 + 4 * (12 + i))) H) (hD : va_D A (kc_W cy ad (6 + 4 * (12 + i)))) (hS : va_S A st.heap H locs) (ls : Array Slot) (hl : lv_has ls 2 [(1, .int (nI i)), (0, .ref q0)]), i ≤ 4 → 5 ≤ i + n → W p l e (headSpec wsX3_init ({ frames := 2, cells := 101, slots := 656, locals := 34 })).room st m ([.ref q0] : List Value).toArray below meth c H locs (53 + 4 * i) (368 + 27 * i) (MQ below (va_Qv (fun _ => True) (fun u t => va_P D vwCl (kk_W cy (co_ad q0 u) [] k_0) t.heap ∧ va_K D vwCl (me_T cy) t ∧ va_D A (kk_W cy (co_ad q0 u) [] k_0)) A) ([.ref q0] : List Value).toArray st 101 656 A) (F0 m 127 ls []) := by
    intro n
    induction n with
    | zero => intro i ad had H locs hP hD hS ls hl hi hn; exfalso; omega
    | succ n ih =>
      intro i ad had H locs hP hD hS ls hl hi hn
      refine lv_iload_n hx hb dX3_init_127 rfl (lv_at hl 0 rfl) ?_
      refine lv_iconst (v := nI 4) hx hb dX3_init_128 (by decide) ?_
      refine lv_icmp_ge (tgt := 152) hx hb dX3_init_129 (by decide) (fun c5 => ?_) (fun c5 => ?_)
      · have h5 := (nI_leI (by omega) (by omega)).mp c5
        obtain rfl : i = 4 := by omega
        refine lv_iconst (v := nI 0) hx hb dX3_init_152 (by decide) ?_
        refine lv_istore_n (lv' := [(1, .int (nI 0)), (0, .ref q0)]) hx hb dX3_init_153 rfl hl (by decide) rfl (fun ls hl => ?_)
        exact J3 13 0 ad had _ _ hP hD hS ls (lv_sub hl [0, 1] rfl) (by omega) (by omega)
      · have h5 := (not_congr (nI_leI (by omega) (by omega))).mp c5
        refine lv_aload_n hx hb dX3_init_132 rfl (lv_at hl 1 rfl) ?_
        refine va_get (D := D) (ci := 3) (v := .ref (ad 2)) (C := RX3) (T := TX3) (N := 15) hx hb hts inF hown hK hP 0 (by have := kc_get cy ad [] (n := 6 + 4 * (12 + i)) (i := 0) (by omega) (kc_hi cy ad (Or.inr rfl)); rw [List.append_nil, had] at this; exact this) rfl 1 (by decide) k15 (fun _ h9 => h9) rfl dX3_init_133 ?_
        refine lv_iload_n hx hb dX3_init_136 rfl (lv_at hl 0 rfl) ?_
        refine va_new (ci := 2) (fs := [.null, .null, .null]) (C := RX2) (T := TX2) (N := 3) hx hb hts inP tyX2 tyX2_ok hown (hts (.classLink RX3 9 RX2) (by decide +kernel)) (hts (.instantiable RX2 3) (by decide +kernel)) (hts (.initialized RX2) (by decide +kernel)) hK hP hD hS hA rfl (fun j hj => by rcases (show j = 0 ∨ j = 1 ∨ j = 2 by omega) with rfl | rfl | rfl <;> rfl) (by show _ ≤ 101; omega) (by show _ ≤ 656; omega) dX3_init_137 (fun q H hP hD hS => ?_)
        refine lv_dup hx hb dX3_init_140 rfl ?_
        refine lv_iconst (v := nI 0) hx hb dX3_init_141 (by decide) ?_
        refine co_call2 hD hS hA (va_runI (As := [.int (nI 0)]) (rest := [.ref q, .int (nI i), .ref (ad 2)]) ⟨hx, hb, hml, hown, hts⟩ (c_X2_init l D cy _ q (nI 0) H.size) (cwI 1 hts gX3_init_X2_init rfl rfl rfl (hts (.initialized RX2) (by decide +kernel)) (hts (.methodLink RX3 65 yX2_init) (by decide +kernel)) (hts (.instanceMethod yX2_init) (by decide +kernel)) rfl (by decide +kernel) ⟨Nat.le_of_ble_eq_true rfl, Nat.le_of_ble_eq_true rfl⟩) ⟨me_blind, me_pre hK hP hD⟩ rfl rfl hl.1 rfl (lv_room (Nat.le_of_ble_eq_true rfl)) dX3_init_142 ⟨by show _ ≤ 101; omega, by show _ ≤ 656; omega⟩) (fun u H locs hP hD hS => ?_)
        refine va_astq (r := (RX2, TX2, 3)) hx hb hK hP hD hS 2 3 (6 + 4 * (12 + i)) 2 (kc_get cy ad _ (by omega) (kc_a2 cy ad _)) rfl (kc_new cy ad _ 0 rfl) rfl (vp_in_nI (by omega) (by decide)) dX3_init_145 (fun H locs hP hD hS => ?_)
        rw [nI_clamp (by omega), kc_slot cy ad i q u.1 u.2.1 u.2.2 (by omega)] at hP hD
        refine lv_iinc (v := nI (i + 1)) (lv' := [(1, .int (nI (i + 1))), (0, .ref q0)]) hx hb dX3_init_146 hl (k := 0) rfl (me_inc _) (by decide) rfl (fun ls hl => ?_)
        refine lv_goto (tgt := 127) hx hb dX3_init_149 (by decide) ?_
        refine W.widen (k := 53 + 4 * (i + 1)) (n := 368 + 27 * (i + 1)) (by omega) (by omega) ?_
        exact ih (i + 1) (kc_ad ad (6 + 4 * (12 + i)) [q, u.1, u.2.1, u.2.2]) (by rw [kc_ad_lt ad _ (by omega)]; exact had) _ _ hP hD hS ls (lv_sub hl [0, 1] rfl) (by omega) (by omega)
  have J1 : ∀ (n i : Nat) (ad : Nat → Nat) (had : ad 0 = q0) (H : Heap) (locs : List Loc) (hP : va_P D vwCl (kc_W cy ad (6 + 4 * i)) H) (hD : va_D A (kc_W cy ad (6 + 4 * i))) (hS : va_S A st.heap H locs) (ls : Array Slot) (hl : lv_has ls 2 [(1, .int (nI i)), (0, .ref q0)]), i ≤ 12 → 13 ≤ i + n → W p l e (headSpec wsX3_init ({ frames := 2, cells := 101, slots := 656, locals := 34 })).room st m ([.ref q0] : List Value).toArray below meth c H locs (5 + 4 * i) (44 + 27 * i) (MQ below (va_Qv (fun _ => True) (fun u t => va_P D vwCl (kk_W cy (co_ad q0 u) [] k_0) t.heap ∧ va_K D vwCl (me_T cy) t ∧ va_D A (kk_W cy (co_ad q0 u) [] k_0)) A) ([.ref q0] : List Value).toArray st 101 656 A) (F0 m 99 ls []) := by
    intro n
    induction n with
    | zero => intro i ad had H locs hP hD hS ls hl hi hn; exfalso; omega
    | succ n ih =>
      intro i ad had H locs hP hD hS ls hl hi hn
      refine lv_iload_n hx hb dX3_init_99 rfl (lv_at hl 0 rfl) ?_
      refine lv_bipush (v := nI 12) hx hb dX3_init_100 (by decide) ?_
      refine lv_icmp_ge (tgt := 125) hx hb dX3_init_102 (by decide) (fun c5 => ?_) (fun c5 => ?_)
      · have h5 := (nI_leI (by omega) (by omega)).mp c5
        obtain rfl : i = 12 := by omega
        refine lv_iconst (v := nI 0) hx hb dX3_init_125 (by decide) ?_
        refine lv_istore_n (lv' := [(1, .int (nI 0)), (0, .ref q0)]) hx hb dX3_init_126 rfl hl (by decide) rfl (fun ls hl => ?_)
        exact J2 5 0 ad had _ _ hP hD hS ls (lv_sub hl [0, 1] rfl) (by omega) (by omega)
      · have h5 := (not_congr (nI_leI (by omega) (by omega))).mp c5
        refine lv_aload_n hx hb dX3_init_105 rfl (lv_at hl 1 rfl) ?_
        refine va_get (D := D) (ci := 3) (v := .ref (ad 1)) (C := RX3) (T := TX3) (N := 15) hx hb hts inF hown hK hP 0 (by have := kc_get cy ad [] (n := 6 + 4 * i) (i := 0) (by omega) (kc_hi cy ad (Or.inr rfl)); rw [List.append_nil, had] at this; exact this) rfl 0 (by decide) k11 (fun _ h9 => h9) rfl dX3_init_106 ?_
        refine lv_iload_n hx hb dX3_init_109 rfl (lv_at hl 0 rfl) ?_
        refine va_new (ci := 2) (fs := [.null, .null, .null]) (C := RX2) (T := TX2) (N := 3) hx hb hts inP tyX2 tyX2_ok hown (hts (.classLink RX3 9 RX2) (by decide +kernel)) (hts (.instantiable RX2 3) (by decide +kernel)) (hts (.initialized RX2) (by decide +kernel)) hK hP hD hS hA rfl (fun j hj => by rcases (show j = 0 ∨ j = 1 ∨ j = 2 by omega) with rfl | rfl | rfl <;> rfl) (by show _ ≤ 101; omega) (by show _ ≤ 656; omega) dX3_init_110 (fun q H hP hD hS => ?_)
        refine lv_dup hx hb dX3_init_113 rfl ?_
        refine lv_iload_n hx hb dX3_init_114 rfl (lv_at hl 0 rfl) ?_
        refine co_call2 hD hS hA (va_runI (As := [.int (nI i)]) (rest := [.ref q, .int (nI i), .ref (ad 1)]) ⟨hx, hb, hml, hown, hts⟩ (c_X2_init l D cy _ q (nI i) H.size) (cwI 1 hts gX3_init_X2_init rfl rfl rfl (hts (.initialized RX2) (by decide +kernel)) (hts (.methodLink RX3 65 yX2_init) (by decide +kernel)) (hts (.instanceMethod yX2_init) (by decide +kernel)) rfl (by decide +kernel) ⟨Nat.le_of_ble_eq_true rfl, Nat.le_of_ble_eq_true rfl⟩) ⟨me_blind, me_pre hK hP hD⟩ rfl rfl hl.1 rfl (lv_room (Nat.le_of_ble_eq_true rfl)) dX3_init_115 ⟨by show _ ≤ 101; omega, by show _ ≤ 656; omega⟩) (fun u H locs hP hD hS => ?_)
        refine va_astq (r := (RX2, TX2, 3)) hx hb hK hP hD hS 1 3 (6 + 4 * i) 2 (kc_get cy ad _ (by omega) (kc_a1 cy ad _)) rfl (kc_new cy ad _ 0 rfl) rfl (vp_in_nI (by omega) (by decide)) dX3_init_118 (fun H locs hP hD hS => ?_)
        rw [nI_clamp (by omega), kc_home cy ad i q u.1 u.2.1 u.2.2 (by omega)] at hP hD
        refine lv_iinc (v := nI (i + 1)) (lv' := [(1, .int (nI (i + 1))), (0, .ref q0)]) hx hb dX3_init_119 hl (k := 0) rfl (me_inc _) (by decide) rfl (fun ls hl => ?_)
        refine lv_goto (tgt := 99) hx hb dX3_init_122 (by decide) ?_
        refine W.widen (k := 5 + 4 * (i + 1)) (n := 44 + 27 * (i + 1)) (by omega) (by omega) ?_
        exact ih (i + 1) (kc_ad ad (6 + 4 * i) [q, u.1, u.2.1, u.2.2]) (by rw [kc_ad_lt ad _ (by omega)]; exact had) _ _ hP hD hS ls (lv_sub hl [0, 1] rfl) (by omega) (by omega)
  refine lv_aload_n hx hb dX3_init_0 rfl (lv_at hl 0 rfl) ?_
  refine W.objInit hx hb hown (hts (.methodLink RX3 3 objectInit) (by decide +kernel)) (hts (.instanceMethod objectInit) (by decide +kernel)) (hts (.code objectInit ⟨#[0xb1]⟩ 1 none) (by first | decide +kernel | exact List.mem_cons_of_mem _ (List.mem_append_left _ (List.mem_append_left _ (List.mem_append_left _ (List.mem_append_left _ (List.mem_append_left _ (List.mem_of_getElem? (i := 2) rfl)))))))) rfl (by rw [hml]; exact hl.1) rfl dX3_init_1 (Nat.le_of_ble_eq_true rfl) (Nat.le_of_ble_eq_true rfl) ?_
  refine W.eq (g2 := F0 m 4 ls []) rfl ?_
  refine lv_aload_n hx hb dX3_init_4 rfl (lv_at hl 0 rfl) ?_
  refine lv_bipush (v := nI 12) hx hb dX3_init_5 (by decide) ?_
  refine co_newq (C := RX2) (c0 := cy 3) (t := 3) (N' := 12) hx hb hown (hts (.classLink RX3 9 RX2) (by decide +kernel)) hNN.1 hK rfl hP hD hS hA (by decide +kernel) (by decide +kernel) (by decide +kernel) (by decide +kernel) (by decide +kernel) (fun _ => rfl) dX3_init_7 (fun q1 H hP hD hS => ?_)
  have hP : va_P D vwCl (([] : va_W) ++ [(q0, .inr (3, [.null, .null, .null, .int 0, .int 0, .int 0, .int 0, .int 0, .int 0, .null, .null, .int 0, .int 0, .int 0, .int 0])), (q1, .inl (cy 3, 12, .inr (.inr (.inr (.inr (fun _ => none))))))]) H := hP
  have hD : va_D A (([] : va_W) ++ [(q0, .inr (3, [.null, .null, .null, .int 0, .int 0, .int 0, .int 0, .int 0, .int 0, .null, .null, .int 0, .int 0, .int 0, .int 0])), (q1, .inl (cy 3, 12, .inr (.inr (.inr (.inr (fun _ => none))))))]) := hD
  refine W.widen (k := 1) (n := 12) (by omega) (by omega) ?_
  refine co_putF (v := .ref q1) (ty := .array (.object "TwinWrites$Place")) (ci := 3) (C := RX3) (T := TX3) (N := 15) hx hb hts inF tyX3 tyX3_ok nmX3 hown hK hP hD hS 0 rfl rfl 0 (by decide) (hts (.fieldLink RX3 11 "TwinWrites" "homes" "[LTwinWrites$Place;") (by decide +kernel)) (fun _ h9 => h9) rfl hin rfl (by decide +kernel) rfl rfl (Nat.le_of_ble_eq_true rfl) dX3_init_10 (fun H locs hP hD hS => ?_)
  have hP : va_P D vwCl (([] : va_W) ++ [(q0, .inr (3, [.ref q1, .null, .null, .int 0, .int 0, .int 0, .int 0, .int 0, .int 0, .null, .null, .int 0, .int 0, .int 0, .int 0])), (q1, .inl (cy 3, 12, .inr (.inr (.inr (.inr (fun _ => none))))))]) H := hP
  have hD : va_D A (([] : va_W) ++ [(q0, .inr (3, [.ref q1, .null, .null, .int 0, .int 0, .int 0, .int 0, .int 0, .int 0, .null, .null, .int 0, .int 0, .int 0, .int 0])), (q1, .inl (cy 3, 12, .inr (.inr (.inr (.inr (fun _ => none))))))]) := hD
  refine lv_aload_n hx hb dX3_init_13 rfl (lv_at hl 0 rfl) ?_
  refine lv_iconst (v := nI 4) hx hb dX3_init_14 (by decide) ?_
  refine co_newq (C := RX2) (c0 := cy 3) (t := 3) (N' := 4) hx hb hown (hts (.classLink RX3 9 RX2) (by decide +kernel)) hNN.1 hK rfl hP hD hS hA (by decide +kernel) (by decide +kernel) (by decide +kernel) (by decide +kernel) (by decide +kernel) (fun _ => rfl) dX3_init_15 (fun q2 H hP hD hS => ?_)
  have hP : va_P D vwCl (([] : va_W) ++ [(q0, .inr (3, [.ref q1, .null, .null, .int 0, .int 0, .int 0, .int 0, .int 0, .int 0, .null, .null, .int 0, .int 0, .int 0, .int 0])), (q1, .inl (cy 3, 12, .inr (.inr (.inr (.inr (fun _ => none)))))), (q2, .inl (cy 3, 4, .inr (.inr (.inr (.inr (fun _ => none))))))]) H := hP
  have hD : va_D A (([] : va_W) ++ [(q0, .inr (3, [.ref q1, .null, .null, .int 0, .int 0, .int 0, .int 0, .int 0, .int 0, .null, .null, .int 0, .int 0, .int 0, .int 0])), (q1, .inl (cy 3, 12, .inr (.inr (.inr (.inr (fun _ => none)))))), (q2, .inl (cy 3, 4, .inr (.inr (.inr (.inr (fun _ => none))))))]) := hD
  refine W.widen (k := 2) (n := 16) (by omega) (by omega) ?_
  refine co_putF (v := .ref q2) (ty := .array (.object "TwinWrites$Place")) (ci := 3) (C := RX3) (T := TX3) (N := 15) hx hb hts inF tyX3 tyX3_ok nmX3 hown hK hP hD hS 0 rfl rfl 1 (by decide) (hts (.fieldLink RX3 15 "TwinWrites" "slots" "[LTwinWrites$Place;") (by decide +kernel)) (fun _ h9 => h9) rfl hin rfl (by decide +kernel) rfl rfl (Nat.le_of_ble_eq_true rfl) dX3_init_18 (fun H locs hP hD hS => ?_)
  have hP : va_P D vwCl (([] : va_W) ++ [(q0, .inr (3, [.ref q1, .ref q2, .null, .int 0, .int 0, .int 0, .int 0, .int 0, .int 0, .null, .null, .int 0, .int 0, .int 0, .int 0])), (q1, .inl (cy 3, 12, .inr (.inr (.inr (.inr (fun _ => none)))))), (q2, .inl (cy 3, 4, .inr (.inr (.inr (.inr (fun _ => none))))))]) H := hP
  have hD : va_D A (([] : va_W) ++ [(q0, .inr (3, [.ref q1, .ref q2, .null, .int 0, .int 0, .int 0, .int 0, .int 0, .int 0, .null, .null, .int 0, .int 0, .int 0, .int 0])), (q1, .inl (cy 3, 12, .inr (.inr (.inr (.inr (fun _ => none)))))), (q2, .inl (cy 3, 4, .inr (.inr (.inr (.inr (fun _ => none))))))]) := hD
  refine lv_aload_n hx hb dX3_init_21 rfl (lv_at hl 0 rfl) ?_
  refine lv_bipush (v := nI 12) hx hb dX3_init_22 (by decide) ?_
  refine co_newq (C := RX0) (c0 := cy 4) (t := 4) (N' := 12) hx hb hown (hts (.classLink RX3 18 RX0) (by decide +kernel)) hNN.2.1 hK rfl hP hD hS hA (by decide +kernel) (by decide +kernel) (by decide +kernel) (by decide +kernel) (by decide +kernel) (fun _ => rfl) dX3_init_24 (fun q3 H hP hD hS => ?_)
  have hP : va_P D vwCl (([] : va_W) ++ [(q0, .inr (3, [.ref q1, .ref q2, .null, .int 0, .int 0, .int 0, .int 0, .int 0, .int 0, .null, .null, .int 0, .int 0, .int 0, .int 0])), (q1, .inl (cy 3, 12, .inr (.inr (.inr (.inr (fun _ => none)))))), (q2, .inl (cy 3, 4, .inr (.inr (.inr (.inr (fun _ => none)))))), (q3, .inl (cy 4, 12, .inr (.inr (.inr (.inr (fun _ => none))))))]) H := hP
  have hD : va_D A (([] : va_W) ++ [(q0, .inr (3, [.ref q1, .ref q2, .null, .int 0, .int 0, .int 0, .int 0, .int 0, .int 0, .null, .null, .int 0, .int 0, .int 0, .int 0])), (q1, .inl (cy 3, 12, .inr (.inr (.inr (.inr (fun _ => none)))))), (q2, .inl (cy 3, 4, .inr (.inr (.inr (.inr (fun _ => none)))))), (q3, .inl (cy 4, 12, .inr (.inr (.inr (.inr (fun _ => none))))))]) := hD
  refine W.widen (k := 3) (n := 28) (by omega) (by omega) ?_
  refine co_putF (v := .ref q3) (ty := .array (.object "TwinWrites$Change")) (ci := 3) (C := RX3) (T := TX3) (N := 15) hx hb hts inF tyX3 tyX3_ok nmX3 hown hK hP hD hS 0 rfl rfl 2 (by decide) (hts (.fieldLink RX3 20 "TwinWrites" "log" "[LTwinWrites$Change;") (by decide +kernel)) (fun _ h9 => h9) rfl hin rfl (by decide +kernel) rfl rfl (Nat.le_of_ble_eq_true rfl) dX3_init_27 (fun H locs hP hD hS => ?_)
  have hP : va_P D vwCl (([] : va_W) ++ [(q0, .inr (3, [.ref q1, .ref q2, .ref q3, .int 0, .int 0, .int 0, .int 0, .int 0, .int 0, .null, .null, .int 0, .int 0, .int 0, .int 0])), (q1, .inl (cy 3, 12, .inr (.inr (.inr (.inr (fun _ => none)))))), (q2, .inl (cy 3, 4, .inr (.inr (.inr (.inr (fun _ => none)))))), (q3, .inl (cy 4, 12, .inr (.inr (.inr (.inr (fun _ => none))))))]) H := hP
  have hD : va_D A (([] : va_W) ++ [(q0, .inr (3, [.ref q1, .ref q2, .ref q3, .int 0, .int 0, .int 0, .int 0, .int 0, .int 0, .null, .null, .int 0, .int 0, .int 0, .int 0])), (q1, .inl (cy 3, 12, .inr (.inr (.inr (.inr (fun _ => none)))))), (q2, .inl (cy 3, 4, .inr (.inr (.inr (.inr (fun _ => none)))))), (q3, .inl (cy 4, 12, .inr (.inr (.inr (.inr (fun _ => none))))))]) := hD
  refine lv_aload_n hx hb dX3_init_30 rfl (lv_at hl 0 rfl) ?_
  refine lv_iconst (v := nI 1) hx hb dX3_init_31 (by decide) ?_
  refine co_put (v := .int (nI 1)) (ty := .int) (ci := 3) (C := RX3) (T := TX3) (N := 15) hx hb hts inF tyX3 tyX3_ok nmX3 hown hK hP hD hS 0 rfl rfl 3 (by decide) (hts (.fieldLink RX3 24 "TwinWrites" "mark" "I") (by decide +kernel)) (fun _ h9 => h9) rfl (by decide +kernel) rfl rfl (Nat.le_of_ble_eq_true rfl) dX3_init_32 (fun H locs hP hD hS => ?_)
  have hP : va_P D vwCl (([] : va_W) ++ [(q0, .inr (3, [.ref q1, .ref q2, .ref q3, .int (nI 1), .int 0, .int 0, .int 0, .int 0, .int 0, .null, .null, .int 0, .int 0, .int 0, .int 0])), (q1, .inl (cy 3, 12, .inr (.inr (.inr (.inr (fun _ => none)))))), (q2, .inl (cy 3, 4, .inr (.inr (.inr (.inr (fun _ => none)))))), (q3, .inl (cy 4, 12, .inr (.inr (.inr (.inr (fun _ => none))))))]) H := hP
  have hD : va_D A (([] : va_W) ++ [(q0, .inr (3, [.ref q1, .ref q2, .ref q3, .int (nI 1), .int 0, .int 0, .int 0, .int 0, .int 0, .null, .null, .int 0, .int 0, .int 0, .int 0])), (q1, .inl (cy 3, 12, .inr (.inr (.inr (.inr (fun _ => none)))))), (q2, .inl (cy 3, 4, .inr (.inr (.inr (.inr (fun _ => none)))))), (q3, .inl (cy 4, 12, .inr (.inr (.inr (.inr (fun _ => none))))))]) := hD
  refine lv_aload_n hx hb dX3_init_35 rfl (lv_at hl 0 rfl) ?_
  refine lv_iconst (v := (-1)) hx hb dX3_init_36 (by decide) ?_
  refine co_put (v := .int ((-1))) (ty := .int) (ci := 3) (C := RX3) (T := TX3) (N := 15) hx hb hts inF tyX3 tyX3_ok nmX3 hown hK hP hD hS 0 rfl rfl 4 (by decide) (hts (.fieldLink RX3 28 "TwinWrites" "sectorsLeft" "I") (by decide +kernel)) (fun _ h9 => h9) rfl (by decide +kernel) rfl rfl (Nat.le_of_ble_eq_true rfl) dX3_init_37 (fun H locs hP hD hS => ?_)
  have hP : va_P D vwCl (([] : va_W) ++ [(q0, .inr (3, [.ref q1, .ref q2, .ref q3, .int (nI 1), .int ((-1)), .int 0, .int 0, .int 0, .int 0, .null, .null, .int 0, .int 0, .int 0, .int 0])), (q1, .inl (cy 3, 12, .inr (.inr (.inr (.inr (fun _ => none)))))), (q2, .inl (cy 3, 4, .inr (.inr (.inr (.inr (fun _ => none)))))), (q3, .inl (cy 4, 12, .inr (.inr (.inr (.inr (fun _ => none))))))]) H := hP
  have hD : va_D A (([] : va_W) ++ [(q0, .inr (3, [.ref q1, .ref q2, .ref q3, .int (nI 1), .int ((-1)), .int 0, .int 0, .int 0, .int 0, .null, .null, .int 0, .int 0, .int 0, .int 0])), (q1, .inl (cy 3, 12, .inr (.inr (.inr (.inr (fun _ => none)))))), (q2, .inl (cy 3, 4, .inr (.inr (.inr (.inr (fun _ => none)))))), (q3, .inl (cy 4, 12, .inr (.inr (.inr (.inr (fun _ => none))))))]) := hD
  refine lv_aload_n hx hb dX3_init_40 rfl (lv_at hl 0 rfl) ?_
  refine lv_iconst (v := nI 0) hx hb dX3_init_41 (by decide) ?_
  refine co_put (v := .int (nI 0)) (ty := .boolean) (ci := 3) (C := RX3) (T := TX3) (N := 15) hx hb hts inF tyX3 tyX3_ok nmX3 hown hK hP hD hS 0 rfl rfl 5 (by decide) (hts (.fieldLink RX3 31 "TwinWrites" "down" "Z") (by decide +kernel)) (fun _ h9 => h9) rfl (by decide +kernel) rfl rfl (Nat.le_of_ble_eq_true rfl) dX3_init_42 (fun H locs hP hD hS => ?_)
  have hP : va_P D vwCl (([] : va_W) ++ [(q0, .inr (3, [.ref q1, .ref q2, .ref q3, .int (nI 1), .int ((-1)), .int (nI 0), .int 0, .int 0, .int 0, .null, .null, .int 0, .int 0, .int 0, .int 0])), (q1, .inl (cy 3, 12, .inr (.inr (.inr (.inr (fun _ => none)))))), (q2, .inl (cy 3, 4, .inr (.inr (.inr (.inr (fun _ => none)))))), (q3, .inl (cy 4, 12, .inr (.inr (.inr (.inr (fun _ => none))))))]) H := hP
  have hD : va_D A (([] : va_W) ++ [(q0, .inr (3, [.ref q1, .ref q2, .ref q3, .int (nI 1), .int ((-1)), .int (nI 0), .int 0, .int 0, .int 0, .null, .null, .int 0, .int 0, .int 0, .int 0])), (q1, .inl (cy 3, 12, .inr (.inr (.inr (.inr (fun _ => none)))))), (q2, .inl (cy 3, 4, .inr (.inr (.inr (.inr (fun _ => none)))))), (q3, .inl (cy 4, 12, .inr (.inr (.inr (.inr (fun _ => none))))))]) := hD
  refine lv_aload_n hx hb dX3_init_45 rfl (lv_at hl 0 rfl) ?_
  refine lv_iconst (v := nI 0) hx hb dX3_init_46 (by decide) ?_
  refine co_put (v := .int (nI 0)) (ty := .int) (ci := 3) (C := RX3) (T := TX3) (N := 15) hx hb hts inF tyX3 tyX3_ok nmX3 hown hK hP hD hS 0 rfl rfl 6 (by decide) (hts (.fieldLink RX3 35 "TwinWrites" "sectorsWritten" "I") (by decide +kernel)) (fun _ h9 => h9) rfl (by decide +kernel) rfl rfl (Nat.le_of_ble_eq_true rfl) dX3_init_47 (fun H locs hP hD hS => ?_)
  have hP : va_P D vwCl (([] : va_W) ++ [(q0, .inr (3, [.ref q1, .ref q2, .ref q3, .int (nI 1), .int ((-1)), .int (nI 0), .int (nI 0), .int 0, .int 0, .null, .null, .int 0, .int 0, .int 0, .int 0])), (q1, .inl (cy 3, 12, .inr (.inr (.inr (.inr (fun _ => none)))))), (q2, .inl (cy 3, 4, .inr (.inr (.inr (.inr (fun _ => none)))))), (q3, .inl (cy 4, 12, .inr (.inr (.inr (.inr (fun _ => none))))))]) H := hP
  have hD : va_D A (([] : va_W) ++ [(q0, .inr (3, [.ref q1, .ref q2, .ref q3, .int (nI 1), .int ((-1)), .int (nI 0), .int (nI 0), .int 0, .int 0, .null, .null, .int 0, .int 0, .int 0, .int 0])), (q1, .inl (cy 3, 12, .inr (.inr (.inr (.inr (fun _ => none)))))), (q2, .inl (cy 3, 4, .inr (.inr (.inr (.inr (fun _ => none)))))), (q3, .inl (cy 4, 12, .inr (.inr (.inr (.inr (fun _ => none))))))]) := hD
  refine lv_aload_n hx hb dX3_init_50 rfl (lv_at hl 0 rfl) ?_
  refine lv_iconst (v := nI 0) hx hb dX3_init_51 (by decide) ?_
  refine co_put (v := .int (nI 0)) (ty := .int) (ci := 3) (C := RX3) (T := TX3) (N := 15) hx hb hts inF tyX3 tyX3_ok nmX3 hown hK hP hD hS 0 rfl rfl 7 (by decide) (hts (.fieldLink RX3 38 "TwinWrites" "pagesCleaned" "I") (by decide +kernel)) (fun _ h9 => h9) rfl (by decide +kernel) rfl rfl (Nat.le_of_ble_eq_true rfl) dX3_init_52 (fun H locs hP hD hS => ?_)
  have hP : va_P D vwCl (([] : va_W) ++ [(q0, .inr (3, [.ref q1, .ref q2, .ref q3, .int (nI 1), .int ((-1)), .int (nI 0), .int (nI 0), .int (nI 0), .int 0, .null, .null, .int 0, .int 0, .int 0, .int 0])), (q1, .inl (cy 3, 12, .inr (.inr (.inr (.inr (fun _ => none)))))), (q2, .inl (cy 3, 4, .inr (.inr (.inr (.inr (fun _ => none)))))), (q3, .inl (cy 4, 12, .inr (.inr (.inr (.inr (fun _ => none))))))]) H := hP
  have hD : va_D A (([] : va_W) ++ [(q0, .inr (3, [.ref q1, .ref q2, .ref q3, .int (nI 1), .int ((-1)), .int (nI 0), .int (nI 0), .int (nI 0), .int 0, .null, .null, .int 0, .int 0, .int 0, .int 0])), (q1, .inl (cy 3, 12, .inr (.inr (.inr (.inr (fun _ => none)))))), (q2, .inl (cy 3, 4, .inr (.inr (.inr (.inr (fun _ => none)))))), (q3, .inl (cy 4, 12, .inr (.inr (.inr (.inr (fun _ => none))))))]) := hD
  refine lv_aload_n hx hb dX3_init_55 rfl (lv_at hl 0 rfl) ?_
  refine lv_iconst (v := nI 0) hx hb dX3_init_56 (by decide) ?_
  refine co_put (v := .int (nI 0)) (ty := .int) (ci := 3) (C := RX3) (T := TX3) (N := 15) hx hb hts inF tyX3 tyX3_ok nmX3 hown hK hP hD hS 0 rfl rfl 8 (by decide) (hts (.fieldLink RX3 41 "TwinWrites" "pagesMended" "I") (by decide +kernel)) (fun _ h9 => h9) rfl (by decide +kernel) rfl rfl (Nat.le_of_ble_eq_true rfl) dX3_init_57 (fun H locs hP hD hS => ?_)
  have hP : va_P D vwCl (([] : va_W) ++ [(q0, .inr (3, [.ref q1, .ref q2, .ref q3, .int (nI 1), .int ((-1)), .int (nI 0), .int (nI 0), .int (nI 0), .int (nI 0), .null, .null, .int 0, .int 0, .int 0, .int 0])), (q1, .inl (cy 3, 12, .inr (.inr (.inr (.inr (fun _ => none)))))), (q2, .inl (cy 3, 4, .inr (.inr (.inr (.inr (fun _ => none)))))), (q3, .inl (cy 4, 12, .inr (.inr (.inr (.inr (fun _ => none))))))]) H := hP
  have hD : va_D A (([] : va_W) ++ [(q0, .inr (3, [.ref q1, .ref q2, .ref q3, .int (nI 1), .int ((-1)), .int (nI 0), .int (nI 0), .int (nI 0), .int (nI 0), .null, .null, .int 0, .int 0, .int 0, .int 0])), (q1, .inl (cy 3, 12, .inr (.inr (.inr (.inr (fun _ => none)))))), (q2, .inl (cy 3, 4, .inr (.inr (.inr (.inr (fun _ => none)))))), (q3, .inl (cy 4, 12, .inr (.inr (.inr (.inr (fun _ => none))))))]) := hD
  refine lv_aload_n hx hb dX3_init_60 rfl (lv_at hl 0 rfl) ?_
  refine lv_iconst (v := nI 4) hx hb dX3_init_61 (by decide) ?_
  refine co_newq (C := RX1) (c0 := cy 5) (t := 5) (N' := 4) hx hb hown (hts (.classLink RX3 44 RX1) (by decide +kernel)) hNN.2.2.1 hK rfl hP hD hS hA (by decide +kernel) (by decide +kernel) (by decide +kernel) (by decide +kernel) (by decide +kernel) (fun _ => rfl) dX3_init_62 (fun q4 H hP hD hS => ?_)
  have hP : va_P D vwCl (([] : va_W) ++ [(q0, .inr (3, [.ref q1, .ref q2, .ref q3, .int (nI 1), .int ((-1)), .int (nI 0), .int (nI 0), .int (nI 0), .int (nI 0), .null, .null, .int 0, .int 0, .int 0, .int 0])), (q1, .inl (cy 3, 12, .inr (.inr (.inr (.inr (fun _ => none)))))), (q2, .inl (cy 3, 4, .inr (.inr (.inr (.inr (fun _ => none)))))), (q3, .inl (cy 4, 12, .inr (.inr (.inr (.inr (fun _ => none)))))), (q4, .inl (cy 5, 4, .inr (.inr (.inr (.inr (fun _ => none))))))]) H := hP
  have hD : va_D A (([] : va_W) ++ [(q0, .inr (3, [.ref q1, .ref q2, .ref q3, .int (nI 1), .int ((-1)), .int (nI 0), .int (nI 0), .int (nI 0), .int (nI 0), .null, .null, .int 0, .int 0, .int 0, .int 0])), (q1, .inl (cy 3, 12, .inr (.inr (.inr (.inr (fun _ => none)))))), (q2, .inl (cy 3, 4, .inr (.inr (.inr (.inr (fun _ => none)))))), (q3, .inl (cy 4, 12, .inr (.inr (.inr (.inr (fun _ => none)))))), (q4, .inl (cy 5, 4, .inr (.inr (.inr (.inr (fun _ => none))))))]) := hD
  refine W.widen (k := 4) (n := 32) (by omega) (by omega) ?_
  refine co_putF (v := .ref q4) (ty := .array (.object "TwinWrites$Frame")) (ci := 3) (C := RX3) (T := TX3) (N := 15) hx hb hts inF tyX3 tyX3_ok nmX3 hown hK hP hD hS 0 rfl rfl 9 (by decide) (hts (.fieldLink RX3 46 "TwinWrites" "frames" "[LTwinWrites$Frame;") (by decide +kernel)) (fun _ h9 => h9) rfl hin rfl (by decide +kernel) rfl rfl (Nat.le_of_ble_eq_true rfl) dX3_init_65 (fun H locs hP hD hS => ?_)
  have hP : va_P D vwCl (([] : va_W) ++ [(q0, .inr (3, [.ref q1, .ref q2, .ref q3, .int (nI 1), .int ((-1)), .int (nI 0), .int (nI 0), .int (nI 0), .int (nI 0), .ref q4, .null, .int 0, .int 0, .int 0, .int 0])), (q1, .inl (cy 3, 12, .inr (.inr (.inr (.inr (fun _ => none)))))), (q2, .inl (cy 3, 4, .inr (.inr (.inr (.inr (fun _ => none)))))), (q3, .inl (cy 4, 12, .inr (.inr (.inr (.inr (fun _ => none)))))), (q4, .inl (cy 5, 4, .inr (.inr (.inr (.inr (fun _ => none))))))]) H := hP
  have hD : va_D A (([] : va_W) ++ [(q0, .inr (3, [.ref q1, .ref q2, .ref q3, .int (nI 1), .int ((-1)), .int (nI 0), .int (nI 0), .int (nI 0), .int (nI 0), .ref q4, .null, .int 0, .int 0, .int 0, .int 0])), (q1, .inl (cy 3, 12, .inr (.inr (.inr (.inr (fun _ => none)))))), (q2, .inl (cy 3, 4, .inr (.inr (.inr (.inr (fun _ => none)))))), (q3, .inl (cy 4, 12, .inr (.inr (.inr (.inr (fun _ => none)))))), (q4, .inl (cy 5, 4, .inr (.inr (.inr (.inr (fun _ => none))))))]) := hD
  refine lv_aload_n hx hb dX3_init_68 rfl (lv_at hl 0 rfl) ?_
  refine lv_bipush (v := nI 12) hx hb dX3_init_69 (by decide) ?_
  refine co_newq (C := RX0) (c0 := cy 4) (t := 4) (N' := 12) hx hb hown (hts (.classLink RX3 18 RX0) (by decide +kernel)) hNN.2.1 hK rfl hP hD hS hA (by decide +kernel) (by decide +kernel) (by decide +kernel) (by decide +kernel) (by decide +kernel) (fun _ => rfl) dX3_init_71 (fun q5 H hP hD hS => ?_)
  have hP : va_P D vwCl (([] : va_W) ++ [(q0, .inr (3, [.ref q1, .ref q2, .ref q3, .int (nI 1), .int ((-1)), .int (nI 0), .int (nI 0), .int (nI 0), .int (nI 0), .ref q4, .null, .int 0, .int 0, .int 0, .int 0])), (q1, .inl (cy 3, 12, .inr (.inr (.inr (.inr (fun _ => none)))))), (q2, .inl (cy 3, 4, .inr (.inr (.inr (.inr (fun _ => none)))))), (q3, .inl (cy 4, 12, .inr (.inr (.inr (.inr (fun _ => none)))))), (q4, .inl (cy 5, 4, .inr (.inr (.inr (.inr (fun _ => none)))))), (q5, .inl (cy 4, 12, .inr (.inr (.inr (.inr (fun _ => none))))))]) H := hP
  have hD : va_D A (([] : va_W) ++ [(q0, .inr (3, [.ref q1, .ref q2, .ref q3, .int (nI 1), .int ((-1)), .int (nI 0), .int (nI 0), .int (nI 0), .int (nI 0), .ref q4, .null, .int 0, .int 0, .int 0, .int 0])), (q1, .inl (cy 3, 12, .inr (.inr (.inr (.inr (fun _ => none)))))), (q2, .inl (cy 3, 4, .inr (.inr (.inr (.inr (fun _ => none)))))), (q3, .inl (cy 4, 12, .inr (.inr (.inr (.inr (fun _ => none)))))), (q4, .inl (cy 5, 4, .inr (.inr (.inr (.inr (fun _ => none)))))), (q5, .inl (cy 4, 12, .inr (.inr (.inr (.inr (fun _ => none))))))]) := hD
  refine W.widen (k := 5) (n := 44) (by omega) (by omega) ?_
  refine co_putF (v := .ref q5) (ty := .array (.object "TwinWrites$Change")) (ci := 3) (C := RX3) (T := TX3) (N := 15) hx hb hts inF tyX3 tyX3_ok nmX3 hown hK hP hD hS 0 rfl rfl 10 (by decide) (hts (.fieldLink RX3 50 "TwinWrites" "waiting" "[LTwinWrites$Change;") (by decide +kernel)) (fun _ h9 => h9) rfl hin rfl (by decide +kernel) rfl rfl (Nat.le_of_ble_eq_true rfl) dX3_init_74 (fun H locs hP hD hS => ?_)
  have hP : va_P D vwCl (([] : va_W) ++ [(q0, .inr (3, [.ref q1, .ref q2, .ref q3, .int (nI 1), .int ((-1)), .int (nI 0), .int (nI 0), .int (nI 0), .int (nI 0), .ref q4, .ref q5, .int 0, .int 0, .int 0, .int 0])), (q1, .inl (cy 3, 12, .inr (.inr (.inr (.inr (fun _ => none)))))), (q2, .inl (cy 3, 4, .inr (.inr (.inr (.inr (fun _ => none)))))), (q3, .inl (cy 4, 12, .inr (.inr (.inr (.inr (fun _ => none)))))), (q4, .inl (cy 5, 4, .inr (.inr (.inr (.inr (fun _ => none)))))), (q5, .inl (cy 4, 12, .inr (.inr (.inr (.inr (fun _ => none))))))]) H := hP
  have hD : va_D A (([] : va_W) ++ [(q0, .inr (3, [.ref q1, .ref q2, .ref q3, .int (nI 1), .int ((-1)), .int (nI 0), .int (nI 0), .int (nI 0), .int (nI 0), .ref q4, .ref q5, .int 0, .int 0, .int 0, .int 0])), (q1, .inl (cy 3, 12, .inr (.inr (.inr (.inr (fun _ => none)))))), (q2, .inl (cy 3, 4, .inr (.inr (.inr (.inr (fun _ => none)))))), (q3, .inl (cy 4, 12, .inr (.inr (.inr (.inr (fun _ => none)))))), (q4, .inl (cy 5, 4, .inr (.inr (.inr (.inr (fun _ => none)))))), (q5, .inl (cy 4, 12, .inr (.inr (.inr (.inr (fun _ => none))))))]) := hD
  refine lv_aload_n hx hb dX3_init_77 rfl (lv_at hl 0 rfl) ?_
  refine lv_iconst (v := nI 0) hx hb dX3_init_78 (by decide) ?_
  refine co_put (v := .int (nI 0)) (ty := .int) (ci := 3) (C := RX3) (T := TX3) (N := 15) hx hb hts inF tyX3 tyX3_ok nmX3 hown hK hP hD hS 0 rfl rfl 11 (by decide) (hts (.fieldLink RX3 53 "TwinWrites" "waitingCount" "I") (by decide +kernel)) (fun _ h9 => h9) rfl (by decide +kernel) rfl rfl (Nat.le_of_ble_eq_true rfl) dX3_init_79 (fun H locs hP hD hS => ?_)
  have hP : va_P D vwCl (([] : va_W) ++ [(q0, .inr (3, [.ref q1, .ref q2, .ref q3, .int (nI 1), .int ((-1)), .int (nI 0), .int (nI 0), .int (nI 0), .int (nI 0), .ref q4, .ref q5, .int (nI 0), .int 0, .int 0, .int 0])), (q1, .inl (cy 3, 12, .inr (.inr (.inr (.inr (fun _ => none)))))), (q2, .inl (cy 3, 4, .inr (.inr (.inr (.inr (fun _ => none)))))), (q3, .inl (cy 4, 12, .inr (.inr (.inr (.inr (fun _ => none)))))), (q4, .inl (cy 5, 4, .inr (.inr (.inr (.inr (fun _ => none)))))), (q5, .inl (cy 4, 12, .inr (.inr (.inr (.inr (fun _ => none))))))]) H := hP
  have hD : va_D A (([] : va_W) ++ [(q0, .inr (3, [.ref q1, .ref q2, .ref q3, .int (nI 1), .int ((-1)), .int (nI 0), .int (nI 0), .int (nI 0), .int (nI 0), .ref q4, .ref q5, .int (nI 0), .int 0, .int 0, .int 0])), (q1, .inl (cy 3, 12, .inr (.inr (.inr (.inr (fun _ => none)))))), (q2, .inl (cy 3, 4, .inr (.inr (.inr (.inr (fun _ => none)))))), (q3, .inl (cy 4, 12, .inr (.inr (.inr (.inr (fun _ => none)))))), (q4, .inl (cy 5, 4, .inr (.inr (.inr (.inr (fun _ => none)))))), (q5, .inl (cy 4, 12, .inr (.inr (.inr (.inr (fun _ => none))))))]) := hD
  refine lv_aload_n hx hb dX3_init_82 rfl (lv_at hl 0 rfl) ?_
  refine lv_iconst (v := nI 1) hx hb dX3_init_83 (by decide) ?_
  refine co_put (v := .int (nI 1)) (ty := .int) (ci := 3) (C := RX3) (T := TX3) (N := 15) hx hb hts inF tyX3 tyX3_ok nmX3 hown hK hP hD hS 0 rfl rfl 12 (by decide) (hts (.fieldLink RX3 56 "TwinWrites" "nextNumber" "I") (by decide +kernel)) (fun _ h9 => h9) rfl (by decide +kernel) rfl rfl (Nat.le_of_ble_eq_true rfl) dX3_init_84 (fun H locs hP hD hS => ?_)
  have hP : va_P D vwCl (([] : va_W) ++ [(q0, .inr (3, [.ref q1, .ref q2, .ref q3, .int (nI 1), .int ((-1)), .int (nI 0), .int (nI 0), .int (nI 0), .int (nI 0), .ref q4, .ref q5, .int (nI 0), .int (nI 1), .int 0, .int 0])), (q1, .inl (cy 3, 12, .inr (.inr (.inr (.inr (fun _ => none)))))), (q2, .inl (cy 3, 4, .inr (.inr (.inr (.inr (fun _ => none)))))), (q3, .inl (cy 4, 12, .inr (.inr (.inr (.inr (fun _ => none)))))), (q4, .inl (cy 5, 4, .inr (.inr (.inr (.inr (fun _ => none)))))), (q5, .inl (cy 4, 12, .inr (.inr (.inr (.inr (fun _ => none))))))]) H := hP
  have hD : va_D A (([] : va_W) ++ [(q0, .inr (3, [.ref q1, .ref q2, .ref q3, .int (nI 1), .int ((-1)), .int (nI 0), .int (nI 0), .int (nI 0), .int (nI 0), .ref q4, .ref q5, .int (nI 0), .int (nI 1), .int 0, .int 0])), (q1, .inl (cy 3, 12, .inr (.inr (.inr (.inr (fun _ => none)))))), (q2, .inl (cy 3, 4, .inr (.inr (.inr (.inr (fun _ => none)))))), (q3, .inl (cy 4, 12, .inr (.inr (.inr (.inr (fun _ => none)))))), (q4, .inl (cy 5, 4, .inr (.inr (.inr (.inr (fun _ => none)))))), (q5, .inl (cy 4, 12, .inr (.inr (.inr (.inr (fun _ => none))))))]) := hD
  refine lv_aload_n hx hb dX3_init_87 rfl (lv_at hl 0 rfl) ?_
  refine lv_iconst (v := nI 0) hx hb dX3_init_88 (by decide) ?_
  refine co_put (v := .int (nI 0)) (ty := .int) (ci := 3) (C := RX3) (T := TX3) (N := 15) hx hb hts inF tyX3 tyX3_ok nmX3 hown hK hP hD hS 0 rfl rfl 13 (by decide) (hts (.fieldLink RX3 59 "TwinWrites" "askings" "I") (by decide +kernel)) (fun _ h9 => h9) rfl (by decide +kernel) rfl rfl (Nat.le_of_ble_eq_true rfl) dX3_init_89 (fun H locs hP hD hS => ?_)
  have hP : va_P D vwCl (([] : va_W) ++ [(q0, .inr (3, [.ref q1, .ref q2, .ref q3, .int (nI 1), .int ((-1)), .int (nI 0), .int (nI 0), .int (nI 0), .int (nI 0), .ref q4, .ref q5, .int (nI 0), .int (nI 1), .int (nI 0), .int 0])), (q1, .inl (cy 3, 12, .inr (.inr (.inr (.inr (fun _ => none)))))), (q2, .inl (cy 3, 4, .inr (.inr (.inr (.inr (fun _ => none)))))), (q3, .inl (cy 4, 12, .inr (.inr (.inr (.inr (fun _ => none)))))), (q4, .inl (cy 5, 4, .inr (.inr (.inr (.inr (fun _ => none)))))), (q5, .inl (cy 4, 12, .inr (.inr (.inr (.inr (fun _ => none))))))]) H := hP
  have hD : va_D A (([] : va_W) ++ [(q0, .inr (3, [.ref q1, .ref q2, .ref q3, .int (nI 1), .int ((-1)), .int (nI 0), .int (nI 0), .int (nI 0), .int (nI 0), .ref q4, .ref q5, .int (nI 0), .int (nI 1), .int (nI 0), .int 0])), (q1, .inl (cy 3, 12, .inr (.inr (.inr (.inr (fun _ => none)))))), (q2, .inl (cy 3, 4, .inr (.inr (.inr (.inr (fun _ => none)))))), (q3, .inl (cy 4, 12, .inr (.inr (.inr (.inr (fun _ => none)))))), (q4, .inl (cy 5, 4, .inr (.inr (.inr (.inr (fun _ => none)))))), (q5, .inl (cy 4, 12, .inr (.inr (.inr (.inr (fun _ => none))))))]) := hD
  refine lv_aload_n hx hb dX3_init_92 rfl (lv_at hl 0 rfl) ?_
  refine lv_iconst (v := nI 0) hx hb dX3_init_93 (by decide) ?_
  refine co_put (v := .int (nI 0)) (ty := .int) (ci := 3) (C := RX3) (T := TX3) (N := 15) hx hb hts inF tyX3 tyX3_ok nmX3 hown hK hP hD hS 0 rfl rfl 14 (by decide) (hts (.fieldLink RX3 62 "TwinWrites" "wordGot" "I") (by decide +kernel)) (fun _ h9 => h9) rfl (by decide +kernel) rfl rfl (Nat.le_of_ble_eq_true rfl) dX3_init_94 (fun H locs hP hD hS => ?_)
  have hP : va_P D vwCl (([] : va_W) ++ [(q0, .inr (3, [.ref q1, .ref q2, .ref q3, .int (nI 1), .int ((-1)), .int (nI 0), .int (nI 0), .int (nI 0), .int (nI 0), .ref q4, .ref q5, .int (nI 0), .int (nI 1), .int (nI 0), .int (nI 0)])), (q1, .inl (cy 3, 12, .inr (.inr (.inr (.inr (fun _ => none)))))), (q2, .inl (cy 3, 4, .inr (.inr (.inr (.inr (fun _ => none)))))), (q3, .inl (cy 4, 12, .inr (.inr (.inr (.inr (fun _ => none)))))), (q4, .inl (cy 5, 4, .inr (.inr (.inr (.inr (fun _ => none)))))), (q5, .inl (cy 4, 12, .inr (.inr (.inr (.inr (fun _ => none))))))]) H := hP
  have hD : va_D A (([] : va_W) ++ [(q0, .inr (3, [.ref q1, .ref q2, .ref q3, .int (nI 1), .int ((-1)), .int (nI 0), .int (nI 0), .int (nI 0), .int (nI 0), .ref q4, .ref q5, .int (nI 0), .int (nI 1), .int (nI 0), .int (nI 0)])), (q1, .inl (cy 3, 12, .inr (.inr (.inr (.inr (fun _ => none)))))), (q2, .inl (cy 3, 4, .inr (.inr (.inr (.inr (fun _ => none)))))), (q3, .inl (cy 4, 12, .inr (.inr (.inr (.inr (fun _ => none)))))), (q4, .inl (cy 5, 4, .inr (.inr (.inr (.inr (fun _ => none)))))), (q5, .inl (cy 4, 12, .inr (.inr (.inr (.inr (fun _ => none))))))]) := hD
  have hP := kc_begin cy q0 q1 q2 q3 q4 q5 ▸ (show va_P D vwCl [(q0, .inr (3, [.ref q1, .ref q2, .ref q3, .int (nI 1), .int ((-1)), .int (nI 0), .int (nI 0), .int (nI 0), .int (nI 0), .ref q4, .ref q5, .int (nI 0), .int (nI 1), .int (nI 0), .int (nI 0)])), (q1, .inl (cy 3, 12, .inr (.inr (.inr (.inr (fun _ => none)))))), (q2, .inl (cy 3, 4, .inr (.inr (.inr (.inr (fun _ => none)))))), (q3, .inl (cy 4, 12, .inr (.inr (.inr (.inr (fun _ => none)))))), (q4, .inl (cy 5, 4, .inr (.inr (.inr (.inr (fun _ => none)))))), (q5, .inl (cy 4, 12, .inr (.inr (.inr (.inr (fun _ => none))))))] H from hP)
  have hD := kc_begin cy q0 q1 q2 q3 q4 q5 ▸ (show va_D A [(q0, .inr (3, [.ref q1, .ref q2, .ref q3, .int (nI 1), .int ((-1)), .int (nI 0), .int (nI 0), .int (nI 0), .int (nI 0), .ref q4, .ref q5, .int (nI 0), .int (nI 1), .int (nI 0), .int (nI 0)])), (q1, .inl (cy 3, 12, .inr (.inr (.inr (.inr (fun _ => none)))))), (q2, .inl (cy 3, 4, .inr (.inr (.inr (.inr (fun _ => none)))))), (q3, .inl (cy 4, 12, .inr (.inr (.inr (.inr (fun _ => none)))))), (q4, .inl (cy 5, 4, .inr (.inr (.inr (.inr (fun _ => none)))))), (q5, .inl (cy 4, 12, .inr (.inr (.inr (.inr (fun _ => none))))))] from hD)
  refine lv_iconst (v := nI 0) hx hb dX3_init_97 (by decide) ?_
  refine lv_istore_n (lv' := [(1, .int (nI 0)), (0, .ref q0)]) hx hb dX3_init_98 rfl hl (by decide) rfl (fun ls hl => ?_)
  exact J1 13 0 _ rfl _ _ hP hD hS ls (lv_sub hl [0, 1] rfl) (by omega) (by omega)
