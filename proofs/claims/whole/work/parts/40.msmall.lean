def m_in (x : Int32) (a : Int32) (b : Int32) : Int32 := if x < a then (nI 0) else (if b < x then (nI 0) else (nI 1))
set_option maxRecDepth 100000 in
set_option maxHeartbeats 4000000 in
theorem c_X4_in (l : Launch) (x : Int32) (a : Int32) (b : Int32)  : me_Cs l yX4_in wsX4_in ({ frames := 0, cells := 0, slots := 0, locals := 0 }) [.int x, .int a, .int b] (m_in x a b) := by
  refine Met.ofW (cc := cX4_in) (maxL := 3) (ret := (some .boolean)) (by decide +kernel) rfl ?_
  intro p e st m args below meth c s₁ B hml hv
  subst hv
  have hx := B.exec
  have hb := B.bytes
  have hr := B.returns
  have hts := atoms_spec (ws := wsX4_in) B.pre
  have hown : st.vm.findClass RX4 = some m.cls := findClass_of_methodNamed B.named
  have hlocks := B.notSynchronized
  have hl := lv_entry ([.int x, .int a, .int b]) (n := 3) (Nat.le_of_ble_eq_true rfl)
  rw [lg_entry_eq]
  generalize (lg_sl ([.int x, .int a, .int b]) ++ List.replicate (3 - (lg_sl ([.int x, .int a, .int b])).length) Slot.unset).toArray = ls at hl ⊢
  have hl : lv_has ls 3 [(0, .int x), (1, .int a), (2, .int b)] := hl
  refine lv_iload_n hx hb dX4_in_0 rfl (lv_at hl 0 rfl) ?_
  refine lv_iload_n hx hb dX4_in_1 rfl (lv_at hl 1 rfl) ?_
  refine lv_icmp_lt (tgt := 14) hx hb dX4_in_2 (by decide) (fun c2 => ?_) (fun c2 => ?_)
  ·
    refine lv_iconst (v := nI 0) hx hb dX4_in_14 (by decide) ?_
    exact me_rets hx hb hr rfl hlocks (by simp only [m_in, if_pos c2]) dX4_in_15
  ·
    refine lv_iload_n hx hb dX4_in_5 rfl (lv_at hl 0 rfl) ?_
    refine lv_iload_n hx hb dX4_in_6 rfl (lv_at hl 2 rfl) ?_
    refine lv_icmp_gt (tgt := 14) hx hb dX4_in_7 (by decide) (fun c7 => ?_) (fun c7 => ?_)
    ·
      refine lv_iconst (v := nI 0) hx hb dX4_in_14 (by decide) ?_
      exact me_rets hx hb hr rfl hlocks (by simp only [m_in, if_neg c2, if_pos c7]) dX4_in_15
    ·
      refine lv_iconst (v := nI 1) hx hb dX4_in_10 (by decide) ?_
      refine lv_goto (tgt := 15) hx hb dX4_in_11 (by decide) ?_
      exact me_rets hx hb hr rfl hlocks (by simp only [m_in, if_neg c2, if_neg c7]) dX4_in_15

def m_thrown  (σ : me_M) : Int32 := σ 0 0
set_option maxRecDepth 100000 in
set_option maxHeartbeats 4000000 in
theorem c_X4_thrown (l : Launch) (D : va_G) (cy : Nat → ClassId) (ad : Nat → Nat) (xr : va_W)  (σ : me_M)  (sz : Nat) : me_Ci l yX4_thrown wsX4_thrown ({ frames := 0, cells := 0, slots := 0, locals := 0 }) D (me_T cy) (mm_W cy ad xr) [.ref (ad 0)] sz σ (m_thrown  σ, σ) := by
  refine Met.ofW (cc := cX4_thrown) (maxL := 1) (ret := (some .int)) (by decide) rfl ?_
  intro p e st m args below meth c s₁ B hml hv
  obtain ⟨rfl, hsz, hP, hK, hD0⟩ := hv
  have hx := B.exec
  have hb := B.bytes
  have hr := B.returns
  have hts := atoms_spec (ws := wsX4_thrown) B.pre
  have hown : st.vm.findClass RX4 = some m.cls := findClass_of_methodNamed B.named
  have hlocks := B.notSynchronized
  have in4 : ∀ w ∈ u_ws RX4 TX4 29, w ∈ wsX4_thrown := by decide +kernel
  have k75 := hts (.fieldLink RX4 75 "TwinWritesModel" "thrown" "I") (by decide +kernel)
  subst hsz
  have hD := hD0.self (sz := st.heap.size)
  have hA : ∀ q : Nat, st.heap.size ≤ q → va_A ((mm_W cy ad xr) σ) st.heap.size q := fun q h => Or.inr h
  have hS : va_S (va_A ((mm_W cy ad xr) σ) st.heap.size) st.heap st.heap [] := va_S.rf
  generalize va_A ((mm_W cy ad xr) σ) st.heap.size = A at hD hA hS ⊢
  have hl := lv_entry ([.ref (ad 0)]) (n := 1) (Nat.le_of_ble_eq_true rfl)
  rw [lg_entry_eq]
  generalize (lg_sl ([.ref (ad 0)]) ++ List.replicate (1 - (lg_sl ([.ref (ad 0)])).length) Slot.unset).toArray = ls at hl ⊢
  have hl : lv_has ls 1 [(0, .ref (ad 0))] := hl
  refine lv_aload_n hx hb dX4_thrown_0 rfl (lv_at hl 0 rfl) ?_
  refine va_get (D := D) (ci := 4) (v := .int (σ 0 0)) (C := RX4) (T := TX4) (N := 29) hx hb hts in4 hown hK hP 0 (me_get (by omega) (mm_0 cy ad _)) rfl 0 (by decide) k75 (fun _ h9 => h9) rfl dX4_thrown_1 ?_
  exact me_retr hx hb hr rfl hlocks hK hP hD hS (by simp only [m_thrown]) dX4_thrown_4

def m_room  (σ : me_M) : Int32 := ((σ 0 10) + (nI 12)) - (σ 0 17)
set_option maxRecDepth 100000 in
set_option maxHeartbeats 4000000 in
theorem c_X4_room (l : Launch) (D : va_G) (cy : Nat → ClassId) (ad : Nat → Nat) (xr : va_W)  (σ : me_M)  (sz : Nat) : me_Ci l yX4_room wsX4_room ({ frames := 0, cells := 0, slots := 0, locals := 0 }) D (me_T cy) (mm_W cy ad xr) [.ref (ad 0)] sz σ (m_room  σ, σ) := by
  refine Met.ofW (cc := cX4_room) (maxL := 1) (ret := (some .int)) (by decide) rfl ?_
  intro p e st m args below meth c s₁ B hml hv
  obtain ⟨rfl, hsz, hP, hK, hD0⟩ := hv
  have hx := B.exec
  have hb := B.bytes
  have hr := B.returns
  have hts := atoms_spec (ws := wsX4_room) B.pre
  have hown : st.vm.findClass RX4 = some m.cls := findClass_of_methodNamed B.named
  have hlocks := B.notSynchronized
  have in4 : ∀ w ∈ u_ws RX4 TX4 29, w ∈ wsX4_room := by decide +kernel
  have k37 := hts (.fieldLink RX4 37 "TwinWritesModel" "mark" "I") (by decide +kernel)
  have k57 := hts (.fieldLink RX4 57 "TwinWritesModel" "next" "I") (by decide +kernel)
  subst hsz
  have hD := hD0.self (sz := st.heap.size)
  have hA : ∀ q : Nat, st.heap.size ≤ q → va_A ((mm_W cy ad xr) σ) st.heap.size q := fun q h => Or.inr h
  have hS : va_S (va_A ((mm_W cy ad xr) σ) st.heap.size) st.heap st.heap [] := va_S.rf
  generalize va_A ((mm_W cy ad xr) σ) st.heap.size = A at hD hA hS ⊢
  have hl := lv_entry ([.ref (ad 0)]) (n := 1) (Nat.le_of_ble_eq_true rfl)
  rw [lg_entry_eq]
  generalize (lg_sl ([.ref (ad 0)]) ++ List.replicate (1 - (lg_sl ([.ref (ad 0)])).length) Slot.unset).toArray = ls at hl ⊢
  have hl : lv_has ls 1 [(0, .ref (ad 0))] := hl
  refine lv_aload_n hx hb dX4_room_0 rfl (lv_at hl 0 rfl) ?_
  refine va_get (D := D) (ci := 4) (v := .int (σ 0 10)) (C := RX4) (T := TX4) (N := 29) hx hb hts in4 hown hK hP 0 (me_get (by omega) (mm_0 cy ad _)) rfl 10 (by decide) k37 (fun _ h9 => h9) rfl dX4_room_1 ?_
  refine lv_bipush (v := nI 12) hx hb dX4_room_4 (by decide) ?_
  refine lv_iadd hx hb dX4_room_6 ?_
  refine lv_aload_n hx hb dX4_room_7 rfl (lv_at hl 0 rfl) ?_
  refine va_get (D := D) (ci := 4) (v := .int (σ 0 17)) (C := RX4) (T := TX4) (N := 29) hx hb hts in4 hown hK hP 0 (me_get (by omega) (mm_0 cy ad _)) rfl 17 (by decide) k57 (fun _ h9 => h9) rfl dX4_room_8 ?_
  refine lv_isub hx hb dX4_room_11 ?_
  exact me_retr hx hb hr rfl hlocks hK hP hD hS (by simp only [m_room]) dX4_room_12

def m_got  (σ : me_M) : Int32 × me_M := let s2 := me_st σ 0 0 (nI 0); (s2 0 23, s2)
set_option maxRecDepth 100000 in
set_option maxHeartbeats 4000000 in
theorem c_X4_got (l : Launch) (D : va_G) (cy : Nat → ClassId) (ad : Nat → Nat) (xr : va_W)  (σ : me_M)  (sz : Nat) : me_Ci l yX4_got wsX4_got ({ frames := 0, cells := 0, slots := 0, locals := 0 }) D (me_T cy) (mm_W cy ad xr) [.ref (ad 0)] sz σ (m_got  σ) := by
  refine Met.ofW (cc := cX4_got) (maxL := 1) (ret := (some .int)) (by decide) rfl ?_
  intro p e st m args below meth c s₁ B hml hv
  obtain ⟨rfl, hsz, hP, hK, hD0⟩ := hv
  have hx := B.exec
  have hb := B.bytes
  have hr := B.returns
  have hts := atoms_spec (ws := wsX4_got) B.pre
  have hown : st.vm.findClass RX4 = some m.cls := findClass_of_methodNamed B.named
  have hlocks := B.notSynchronized
  have in4 : ∀ w ∈ u_ws RX4 TX4 29, w ∈ wsX4_got := by decide +kernel
  have k75 := hts (.fieldLink RX4 75 "TwinWritesModel" "thrown" "I") (by decide +kernel)
  have k135 := hts (.fieldLink RX4 135 "TwinWritesModel" "got" "I") (by decide +kernel)
  subst hsz
  have hD := hD0.self (sz := st.heap.size)
  have hA : ∀ q : Nat, st.heap.size ≤ q → va_A ((mm_W cy ad xr) σ) st.heap.size q := fun q h => Or.inr h
  have hS : va_S (va_A ((mm_W cy ad xr) σ) st.heap.size) st.heap st.heap [] := va_S.rf
  generalize va_A ((mm_W cy ad xr) σ) st.heap.size = A at hD hA hS ⊢
  have hl := lv_entry ([.ref (ad 0)]) (n := 1) (Nat.le_of_ble_eq_true rfl)
  rw [lg_entry_eq]
  generalize (lg_sl ([.ref (ad 0)]) ++ List.replicate (1 - (lg_sl ([.ref (ad 0)])).length) Slot.unset).toArray = ls at hl ⊢
  have hl : lv_has ls 1 [(0, .ref (ad 0))] := hl
  refine lv_aload_n hx hb dX4_got_0 rfl (lv_at hl 0 rfl) ?_
  refine lv_iconst (v := nI 0) hx hb dX4_got_1 (by decide) ?_
  refine me_put (ty := .int) (ci := 4) (C := RX4) (T := TX4) (M := 29) hx hb hts in4 tyX4 tyX4_ok nmX4 hown hK hP hD hS 0 (by omega) (mm_0 cy ad _) rfl 0 (by decide) k75 (fun _ h9 => h9) rfl (by decide +kernel) rfl rfl (Nat.le_of_ble_eq_true rfl) (mm_0 cy ad _) dX4_got_2 (fun s2 H locs e2 hP hD hS => ?_)
  refine lv_aload_n hx hb dX4_got_5 rfl (lv_at hl 0 rfl) ?_
  refine va_get (D := D) (ci := 4) (v := .int (s2 0 23)) (C := RX4) (T := TX4) (N := 29) hx hb hts in4 hown hK hP 0 (me_get (by omega) (mm_0 cy ad _)) rfl 23 (by decide) k135 (fun _ h9 => h9) rfl dX4_got_6 ?_
  exact me_reti hx hb hr rfl hlocks hK hP hD hS (by simp only [m_got, e2]) dX4_got_9

def m_ref (x : Int32) (y : Int32) (σ : me_M) : Int32 × me_M := if (σ 0 0) = 0 then (if x = 0 then (if (σ 0 0) ≤ 0 then ((nI 0, σ)) else ((nI 1, σ))) else (let s13 := me_st σ 0 0 y; if (s13 0 0) ≤ 0 then ((nI 0, s13)) else ((nI 1, s13)))) else (if (σ 0 0) ≤ 0 then ((nI 0, σ)) else ((nI 1, σ)))
set_option maxRecDepth 100000 in
set_option maxHeartbeats 4000000 in
theorem c_X4_refuses (l : Launch) (D : va_G) (cy : Nat → ClassId) (ad : Nat → Nat) (xr : va_W) (x : Int32) (y : Int32) (σ : me_M)  (sz : Nat) : me_Ci l yX4_refuses wsX4_refuses ({ frames := 0, cells := 0, slots := 0, locals := 0 }) D (me_T cy) (mm_W cy ad xr) [.ref (ad 0), .int x, .int y] sz σ (m_ref x y σ) := by
  refine Met.ofW (cc := cX4_refuses) (maxL := 3) (ret := (some .boolean)) (by decide) rfl ?_
  intro p e st m args below meth c s₁ B hml hv
  obtain ⟨rfl, hsz, hP, hK, hD0⟩ := hv
  have hx := B.exec
  have hb := B.bytes
  have hr := B.returns
  have hts := atoms_spec (ws := wsX4_refuses) B.pre
  have hown : st.vm.findClass RX4 = some m.cls := findClass_of_methodNamed B.named
  have hlocks := B.notSynchronized
  have in4 : ∀ w ∈ u_ws RX4 TX4 29, w ∈ wsX4_refuses := by decide +kernel
  have k75 := hts (.fieldLink RX4 75 "TwinWritesModel" "thrown" "I") (by decide +kernel)
  subst hsz
  have hD := hD0.self (sz := st.heap.size)
  have hA : ∀ q : Nat, st.heap.size ≤ q → va_A ((mm_W cy ad xr) σ) st.heap.size q := fun q h => Or.inr h
  have hS : va_S (va_A ((mm_W cy ad xr) σ) st.heap.size) st.heap st.heap [] := va_S.rf
  generalize va_A ((mm_W cy ad xr) σ) st.heap.size = A at hD hA hS ⊢
  have hl := lv_entry ([.ref (ad 0), .int x, .int y]) (n := 3) (Nat.le_of_ble_eq_true rfl)
  rw [lg_entry_eq]
  generalize (lg_sl ([.ref (ad 0), .int x, .int y]) ++ List.replicate (3 - (lg_sl ([.ref (ad 0), .int x, .int y])).length) Slot.unset).toArray = ls at hl ⊢
  have hl : lv_has ls 3 [(0, .ref (ad 0)), (1, .int x), (2, .int y)] := hl
  refine lv_aload_n hx hb dX4_refuses_0 rfl (lv_at hl 0 rfl) ?_
  refine va_get (D := D) (ci := 4) (v := .int (σ 0 0)) (C := RX4) (T := TX4) (N := 29) hx hb hts in4 hown hK hP 0 (me_get (by omega) (mm_0 cy ad _)) rfl 0 (by decide) k75 (fun _ h9 => h9) rfl dX4_refuses_1 ?_
  refine lv_if_ne (tgt := 16) hx hb dX4_refuses_4 (by decide) (fun c4 => ?_) (fun c4 => ?_)
  ·
    refine lv_aload_n hx hb dX4_refuses_16 rfl (lv_at hl 0 rfl) ?_
    refine va_get (D := D) (ci := 4) (v := .int (σ 0 0)) (C := RX4) (T := TX4) (N := 29) hx hb hts in4 hown hK hP 0 (me_get (by omega) (mm_0 cy ad _)) rfl 0 (by decide) k75 (fun _ h9 => h9) rfl dX4_refuses_17 ?_
    refine lv_if_le (tgt := 27) hx hb dX4_refuses_20 (by decide) (fun c20 => ?_) (fun c20 => ?_)
    ·
      refine lv_iconst (v := nI 0) hx hb dX4_refuses_27 (by decide) ?_
      exact me_reti hx hb hr rfl hlocks hK hP hD hS (by simp only [m_ref, if_neg c4, if_pos c20]) dX4_refuses_28
    ·
      refine lv_iconst (v := nI 1) hx hb dX4_refuses_23 (by decide) ?_
      refine lv_goto (tgt := 28) hx hb dX4_refuses_24 (by decide) ?_
      exact me_reti hx hb hr rfl hlocks hK hP hD hS (by simp only [m_ref, if_neg c4, if_neg c20]) dX4_refuses_28
  ·
    refine lv_iload_n hx hb dX4_refuses_7 rfl (lv_at hl 1 rfl) ?_
    refine lv_if_eq (tgt := 16) hx hb dX4_refuses_8 (by decide) (fun c8 => ?_) (fun c8 => ?_)
    ·
      refine lv_aload_n hx hb dX4_refuses_16 rfl (lv_at hl 0 rfl) ?_
      refine va_get (D := D) (ci := 4) (v := .int (σ 0 0)) (C := RX4) (T := TX4) (N := 29) hx hb hts in4 hown hK hP 0 (me_get (by omega) (mm_0 cy ad _)) rfl 0 (by decide) k75 (fun _ h9 => h9) rfl dX4_refuses_17 ?_
      refine lv_if_le (tgt := 27) hx hb dX4_refuses_20 (by decide) (fun c20 => ?_) (fun c20 => ?_)
      ·
        refine lv_iconst (v := nI 0) hx hb dX4_refuses_27 (by decide) ?_
        exact me_reti hx hb hr rfl hlocks hK hP hD hS (by simp only [m_ref, if_pos c4, if_pos c8, if_pos c20]) dX4_refuses_28
      ·
        refine lv_iconst (v := nI 1) hx hb dX4_refuses_23 (by decide) ?_
        refine lv_goto (tgt := 28) hx hb dX4_refuses_24 (by decide) ?_
        exact me_reti hx hb hr rfl hlocks hK hP hD hS (by simp only [m_ref, if_pos c4, if_pos c8, if_neg c20]) dX4_refuses_28
    ·
      refine lv_aload_n hx hb dX4_refuses_11 rfl (lv_at hl 0 rfl) ?_
      refine lv_iload_n hx hb dX4_refuses_12 rfl (lv_at hl 2 rfl) ?_
      refine me_put (ty := .int) (ci := 4) (C := RX4) (T := TX4) (M := 29) hx hb hts in4 tyX4 tyX4_ok nmX4 hown hK hP hD hS 0 (by omega) (mm_0 cy ad _) rfl 0 (by decide) k75 (fun _ h9 => h9) rfl (by decide +kernel) rfl rfl (Nat.le_of_ble_eq_true rfl) (mm_0 cy ad _) dX4_refuses_13 (fun s13 H locs e13 hP hD hS => ?_)
      refine lv_aload_n hx hb dX4_refuses_16 rfl (lv_at hl 0 rfl) ?_
      refine va_get (D := D) (ci := 4) (v := .int (s13 0 0)) (C := RX4) (T := TX4) (N := 29) hx hb hts in4 hown hK hP 0 (me_get (by omega) (mm_0 cy ad _)) rfl 0 (by decide) k75 (fun _ h9 => h9) rfl dX4_refuses_17 ?_
      refine lv_if_le (tgt := 27) hx hb dX4_refuses_20 (by decide) (fun c20 => ?_) (fun c20 => ?_)
      ·
        refine lv_iconst (v := nI 0) hx hb dX4_refuses_27 (by decide) ?_
        exact me_reti hx hb hr rfl hlocks hK hP hD hS (by simp only [m_ref, if_pos c4, if_neg c8, e13, if_pos c20]) dX4_refuses_28
      ·
        refine lv_iconst (v := nI 1) hx hb dX4_refuses_23 (by decide) ?_
        refine lv_goto (tgt := 28) hx hb dX4_refuses_24 (by decide) ?_
        exact me_reti hx hb hr rfl hlocks hK hP hD hS (by simp only [m_ref, if_pos c4, if_neg c8, e13, if_neg c20]) dX4_refuses_28

def m_down_17 : Nat → Nat → me_M → me_M
  | 0, i, s => (s)
  | n + 1, i, s => if nI 4 ≤ (nI i) then ((s)) else (let s28 := me_st s 10 i ((-1)); let s35 := me_st s28 12 i (nI 0); m_down_17 n  (i + 1) s35)
def m_down  (σ : me_M) : me_M := let s2 := me_st σ 0 24 ((-1)); let s7 := me_st s2 0 25 (nI 1); let s12 := me_st s7 0 18 (nI 0); let s17 := m_down_17 5  0 s12; s17
set_option maxRecDepth 100000 in
set_option maxHeartbeats 4000000 in
theorem c_X4_goDown (l : Launch) (D : va_G) (cy : Nat → ClassId) (ad : Nat → Nat) (xr : va_W)  (σ : me_M)  (sz : Nat) : me_Cv l yX4_goDown wsX4_goDown ({ frames := 0, cells := 0, slots := 0, locals := 0 }) D (me_T cy) (mm_W cy ad xr) [.ref (ad 0)] sz σ (m_down  σ) := by
  refine Met.ofW (cc := cX4_goDown) (maxL := 2) (ret := none) (by decide) rfl ?_
  intro p e st m args below meth c s₁ B hml hv
  obtain ⟨rfl, hsz, hP, hK, hD0⟩ := hv
  have hx := B.exec
  have hb := B.bytes
  have hr := B.returns
  have hts := atoms_spec (ws := wsX4_goDown) B.pre
  have hown : st.vm.findClass RX4 = some m.cls := findClass_of_methodNamed B.named
  have hlocks := B.notSynchronized
  have in4 : ∀ w ∈ u_ws RX4 TX4 29, w ∈ wsX4_goDown := by decide +kernel
  have k41 := hts (.fieldLink RX4 41 "TwinWritesModel" "framePage" "[I") (by decide +kernel)
  have k47 := hts (.fieldLink RX4 47 "TwinWritesModel" "isDirty" "[Z") (by decide +kernel)
  have k72 := hts (.fieldLink RX4 72 "TwinWritesModel" "power" "I") (by decide +kernel)
  have k78 := hts (.fieldLink RX4 78 "TwinWritesModel" "isDown" "Z") (by decide +kernel)
  have k82 := hts (.fieldLink RX4 82 "TwinWritesModel" "waiting" "I") (by decide +kernel)
  subst hsz
  have hD := hD0.self (sz := st.heap.size)
  have hA : ∀ q : Nat, st.heap.size ≤ q → va_A ((mm_W cy ad xr) σ) st.heap.size q := fun q h => Or.inr h
  have hS : va_S (va_A ((mm_W cy ad xr) σ) st.heap.size) st.heap st.heap [] := va_S.rf
  generalize va_A ((mm_W cy ad xr) σ) st.heap.size = A at hD hA hS ⊢
  have hl := lv_entry ([.ref (ad 0)]) (n := 2) (Nat.le_of_ble_eq_true rfl)
  rw [lg_entry_eq]
  generalize (lg_sl ([.ref (ad 0)]) ++ List.replicate (2 - (lg_sl ([.ref (ad 0)])).length) Slot.unset).toArray = ls at hl ⊢
  have hl : lv_has ls 2 [(0, .ref (ad 0))] := hl
  refine lv_aload_n hx hb dX4_goDown_0 rfl (lv_at hl 0 rfl) ?_
  refine lv_iconst (v := (-1)) hx hb dX4_goDown_1 (by decide) ?_
  refine me_put (ty := .int) (ci := 4) (C := RX4) (T := TX4) (M := 29) hx hb hts in4 tyX4 tyX4_ok nmX4 hown hK hP hD hS 0 (by omega) (mm_0 cy ad _) rfl 24 (by decide) k72 (fun _ h9 => h9) rfl (by decide +kernel) rfl rfl (Nat.le_of_ble_eq_true rfl) (mm_0 cy ad _) dX4_goDown_2 (fun s2 H locs e2 hP hD hS => ?_)
  refine lv_aload_n hx hb dX4_goDown_5 rfl (lv_at hl 0 rfl) ?_
  refine lv_iconst (v := nI 1) hx hb dX4_goDown_6 (by decide) ?_
  refine me_put (ty := .boolean) (ci := 4) (C := RX4) (T := TX4) (M := 29) hx hb hts in4 tyX4 tyX4_ok nmX4 hown hK hP hD hS 0 (by omega) (mm_0 cy ad _) rfl 25 (by decide) k78 (fun _ h9 => h9) rfl (by decide +kernel) rfl rfl (Nat.le_of_ble_eq_true rfl) (mm_0 cy ad _) dX4_goDown_7 (fun s7 H locs e7 hP hD hS => ?_)
  refine lv_aload_n hx hb dX4_goDown_10 rfl (lv_at hl 0 rfl) ?_
  refine lv_iconst (v := nI 0) hx hb dX4_goDown_11 (by decide) ?_
  refine me_put (ty := .int) (ci := 4) (C := RX4) (T := TX4) (M := 29) hx hb hts in4 tyX4 tyX4_ok nmX4 hown hK hP hD hS 0 (by omega) (mm_0 cy ad _) rfl 18 (by decide) k82 (fun _ h9 => h9) rfl (by decide +kernel) rfl rfl (Nat.le_of_ble_eq_true rfl) (mm_0 cy ad _) dX4_goDown_12 (fun s12 H locs e12 hP hD hS => ?_)
  refine lv_iconst (v := nI 0) hx hb dX4_goDown_15 (by decide) ?_
  refine lv_istore_n (lv' := [(1, .int (nI 0)), (0, .ref (ad 0))]) hx hb dX4_goDown_16 rfl hl (by decide) rfl (fun ls hl => ?_)
  have J17 : ∀ (n : Nat) (i : Nat) (s : me_M) (H : Heap) (locs : List Loc) (hP : va_P D vwCl ((mm_W cy ad xr) s) H) (hD : va_D A ((mm_W cy ad xr) s)) (hS : va_S A st.heap H locs) (ls : Array Slot) (hl : lv_has ls 2 [(1, .int (nI i)), (0, .ref (ad 0))]), ∀ (hi : i ≤ 4), ∀ (hn : 5 ≤ i + n), (∀  (s' : me_M) (H : Heap) (locs : List Loc) (hP : va_P D vwCl ((mm_W cy ad xr) s') H) (hD : va_D A ((mm_W cy ad xr) s')) (hS : va_S A st.heap H locs) (ls : Array Slot) (hl : lv_has ls 2 [(0, .ref (ad 0))]) (eJ : m_down_17 n  i s = (s')) , W p l e (headSpec wsX4_goDown ({ frames := 0, cells := 0, slots := 0, locals := 0 })).room st m ([.ref (ad 0)] : List Value).toArray below meth c H locs 0 0 (MQ below (va_Qv (fun σ' => σ' = m_down  σ) (me_B D (me_T cy) A (mm_W cy ad xr)) A) ([.ref (ad 0)] : List Value).toArray st 0 0 A) (F0 m 42 ls [])) → W p l e (headSpec wsX4_goDown ({ frames := 0, cells := 0, slots := 0, locals := 0 })).room st m ([.ref (ad 0)] : List Value).toArray below meth c H locs 0 0 (MQ below (va_Qv (fun σ' => σ' = m_down  σ) (me_B D (me_T cy) A (mm_W cy ad xr)) A) ([.ref (ad 0)] : List Value).toArray st 0 0 A) (F0 m 17 ls []) := by
    intro n
    induction n with
    | zero => intro i s H locs hP hD hS ls hl hi hn kk17; exfalso; omega
    | succ n ih =>
      intro i s H locs hP hD hS ls hl hi hn kk17
      refine lv_iload_n hx hb dX4_goDown_17 rfl (lv_at hl 0 rfl) ?_
      refine lv_iconst (v := nI 4) hx hb dX4_goDown_18 (by decide) ?_
      refine lv_icmp_ge (tgt := 42) hx hb dX4_goDown_19 (by decide) (fun c19 => ?_) (fun c19 => ?_)
      ·
        try have h19 := (nI_leI (by omega) (by omega)).mp c19
        exact kk17  s _ _ hP hD hS ls (lv_sub hl [1] rfl) (by simp only [m_down_17, if_pos c19]) 
      ·
        try have h19 := (not_congr (nI_leI (by omega) (by omega))).mp c19
        refine lv_aload_n hx hb dX4_goDown_22 rfl (lv_at hl 1 rfl) ?_
        refine va_get (D := D) (ci := 4) (v := .ref (ad 10)) (C := RX4) (T := TX4) (N := 29) hx hb hts in4 hown hK hP 0 (me_get (by omega) (mm_0 cy ad _)) rfl 11 (by decide) k41 (fun _ h9 => h9) rfl dX4_goDown_23 ?_
        refine lv_iload_n hx hb dX4_goDown_26 rfl (lv_at hl 0 rfl) ?_
        refine lv_iconst (v := (-1)) hx hb dX4_goDown_27 (by decide) ?_
        refine me_iast hx hb hK hP hD hS 10 0 (by omega) (fun f => mm_10 cy ad f) rfl i rfl (by omega) (by decide) dX4_goDown_28 (fun s28 H locs e28 hP hD hS => ?_)
        refine lv_aload_n hx hb dX4_goDown_29 rfl (lv_at hl 1 rfl) ?_
        refine va_get (D := D) (ci := 4) (v := .ref (ad 12)) (C := RX4) (T := TX4) (N := 29) hx hb hts in4 hown hK hP 0 (me_get (by omega) (mm_0 cy ad _)) rfl 13 (by decide) k47 (fun _ h9 => h9) rfl dX4_goDown_30 ?_
        refine lv_iload_n hx hb dX4_goDown_33 rfl (lv_at hl 0 rfl) ?_
        refine lv_iconst (v := nI 0) hx hb dX4_goDown_34 (by decide) ?_
        refine me_zast hx hb hK hP hD hS 12 1 (by omega) (fun f => mm_12 cy ad f) rfl i rfl (by omega) (by decide) (by decide) dX4_goDown_35 (fun s35 H locs e35 hP hD hS => ?_)
        refine lv_iinc (v := nI (i + 1)) (lv' := [(1, .int (nI (i + 1))), (0, .ref (ad 0))]) hx hb dX4_goDown_36 hl (k := 0) rfl (me_inc _) (by decide) rfl (fun ls hl => ?_)
        refine lv_goto (tgt := 17) hx hb dX4_goDown_39 (by decide) ?_
        exact ih (i + 1) s35 _ _ hP hD hS ls (lv_sub hl [0, 1] rfl) (by omega) (by omega) (fun  s' H locs hP hD hS ls hl eJ  => kk17  s' H locs hP hD hS ls hl (by simp only [m_down_17, if_neg c19, e28, e35]; exact eJ) )
  refine J17 5 0 s12 _ _ hP hD hS ls (lv_sub hl [0, 1] rfl) (by omega) (by omega) (fun  s17 H locs hP hD hS ls hl e17  => ?_)
  exact me_retv hx hb hr hlocks hK hP hD hS (by simp only [m_down, e2, e7, e12, e17]) dX4_goDown_42

def m_mw  (σ : me_M) : Int32 × me_M := if (σ 0 24) = 0 then (let s8 := m_down σ; (nI 0, s8)) else (if (σ 0 24) ≤ 0 then (let s31 := me_st σ 0 24 ((σ 0 24) - (nI 0)); let s41 := me_st s31 0 26 ((s31 0 26) + (nI 1)); (nI 1, s41)) else (let s31 := me_st σ 0 24 ((σ 0 24) - (nI 1)); let s41 := me_st s31 0 26 ((s31 0 26) + (nI 1)); (nI 1, s41)))
set_option maxRecDepth 100000 in
set_option maxHeartbeats 4000000 in
theorem c_X4_mayWrite (l : Launch) (D : va_G) (cy : Nat → ClassId) (ad : Nat → Nat) (xr : va_W)  (σ : me_M)  (sz : Nat) : me_Ci l yX4_mayWrite wsX4_mayWrite ({ frames := 1, cells := 0, slots := 0, locals := 21 }) D (me_T cy) (mm_W cy ad xr) [.ref (ad 0)] sz σ (m_mw  σ) := by
  refine Met.ofW (cc := cX4_mayWrite) (maxL := 1) (ret := (some .boolean)) (by decide) rfl ?_
  intro p e st m args below meth c s₁ B hml hv
  obtain ⟨rfl, hsz, hP, hK, hD0⟩ := hv
  have hx := B.exec
  have hb := B.bytes
  have hr := B.returns
  have hts := atoms_spec (ws := wsX4_mayWrite) B.pre
  have hown : st.vm.findClass RX4 = some m.cls := findClass_of_methodNamed B.named
  have hlocks := B.notSynchronized
  have in4 : ∀ w ∈ u_ws RX4 TX4 29, w ∈ wsX4_mayWrite := by decide +kernel
  have k72 := hts (.fieldLink RX4 72 "TwinWritesModel" "power" "I") (by decide +kernel)
  have k88 := hts (.fieldLink RX4 88 "TwinWritesModel" "sectors" "I") (by decide +kernel)
  subst hsz
  have hD := hD0.self (sz := st.heap.size)
  have hA : ∀ q : Nat, st.heap.size ≤ q → va_A ((mm_W cy ad xr) σ) st.heap.size q := fun q h => Or.inr h
  have hS : va_S (va_A ((mm_W cy ad xr) σ) st.heap.size) st.heap st.heap [] := va_S.rf
  generalize va_A ((mm_W cy ad xr) σ) st.heap.size = A at hD hA hS ⊢
  have hl := lv_entry ([.ref (ad 0)]) (n := 1) (Nat.le_of_ble_eq_true rfl)
  rw [lg_entry_eq]
  generalize (lg_sl ([.ref (ad 0)]) ++ List.replicate (1 - (lg_sl ([.ref (ad 0)])).length) Slot.unset).toArray = ls at hl ⊢
  have hl : lv_has ls 1 [(0, .ref (ad 0))] := hl
  refine lv_aload_n hx hb dX4_mayWrite_0 rfl (lv_at hl 0 rfl) ?_
  refine va_get (D := D) (ci := 4) (v := .int (σ 0 24)) (C := RX4) (T := TX4) (N := 29) hx hb hts in4 hown hK hP 0 (me_get (by omega) (mm_0 cy ad _)) rfl 24 (by decide) k72 (fun _ h9 => h9) rfl dX4_mayWrite_1 ?_
  refine lv_if_ne (tgt := 13) hx hb dX4_mayWrite_4 (by decide) (fun c4 => ?_) (fun c4 => ?_)
  ·
    refine lv_aload_n hx hb dX4_mayWrite_13 rfl (lv_at hl 0 rfl) ?_
    refine lv_dup hx hb dX4_mayWrite_14 rfl ?_
    refine va_get (D := D) (ci := 4) (v := .int (σ 0 24)) (C := RX4) (T := TX4) (N := 29) hx hb hts in4 hown hK hP 0 (me_get (by omega) (mm_0 cy ad _)) rfl 24 (by decide) k72 (fun _ h9 => h9) rfl dX4_mayWrite_15 ?_
    refine lv_aload_n hx hb dX4_mayWrite_18 rfl (lv_at hl 0 rfl) ?_
    refine va_get (D := D) (ci := 4) (v := .int (σ 0 24)) (C := RX4) (T := TX4) (N := 29) hx hb hts in4 hown hK hP 0 (me_get (by omega) (mm_0 cy ad _)) rfl 24 (by decide) k72 (fun _ h9 => h9) rfl dX4_mayWrite_19 ?_
    refine lv_if_le (tgt := 29) hx hb dX4_mayWrite_22 (by decide) (fun c22 => ?_) (fun c22 => ?_)
    ·
      refine lv_iconst (v := nI 0) hx hb dX4_mayWrite_29 (by decide) ?_
      refine lv_isub hx hb dX4_mayWrite_30 ?_
      refine me_put (ty := .int) (ci := 4) (C := RX4) (T := TX4) (M := 29) hx hb hts in4 tyX4 tyX4_ok nmX4 hown hK hP hD hS 0 (by omega) (mm_0 cy ad _) rfl 24 (by decide) k72 (fun _ h9 => h9) rfl (by decide +kernel) rfl rfl (Nat.le_of_ble_eq_true rfl) (mm_0 cy ad _) dX4_mayWrite_31 (fun s31 H locs e31 hP hD hS => ?_)
      refine lv_aload_n hx hb dX4_mayWrite_34 rfl (lv_at hl 0 rfl) ?_
      refine lv_dup hx hb dX4_mayWrite_35 rfl ?_
      refine va_get (D := D) (ci := 4) (v := .int (s31 0 26)) (C := RX4) (T := TX4) (N := 29) hx hb hts in4 hown hK hP 0 (me_get (by omega) (mm_0 cy ad _)) rfl 26 (by decide) k88 (fun _ h9 => h9) rfl dX4_mayWrite_36 ?_
      refine lv_iconst (v := nI 1) hx hb dX4_mayWrite_39 (by decide) ?_
      refine lv_iadd hx hb dX4_mayWrite_40 ?_
      refine me_put (ty := .int) (ci := 4) (C := RX4) (T := TX4) (M := 29) hx hb hts in4 tyX4 tyX4_ok nmX4 hown hK hP hD hS 0 (by omega) (mm_0 cy ad _) rfl 26 (by decide) k88 (fun _ h9 => h9) rfl (by decide +kernel) rfl rfl (Nat.le_of_ble_eq_true rfl) (mm_0 cy ad _) dX4_mayWrite_41 (fun s41 H locs e41 hP hD hS => ?_)
      refine lv_iconst (v := nI 1) hx hb dX4_mayWrite_44 (by decide) ?_
      exact me_reti hx hb hr rfl hlocks hK hP hD hS (by simp only [m_mw, if_neg c4, if_pos c22, e31, e41]) dX4_mayWrite_45
    ·
      refine lv_iconst (v := nI 1) hx hb dX4_mayWrite_25 (by decide) ?_
      refine lv_goto (tgt := 30) hx hb dX4_mayWrite_26 (by decide) ?_
      refine lv_isub hx hb dX4_mayWrite_30 ?_
      refine me_put (ty := .int) (ci := 4) (C := RX4) (T := TX4) (M := 29) hx hb hts in4 tyX4 tyX4_ok nmX4 hown hK hP hD hS 0 (by omega) (mm_0 cy ad _) rfl 24 (by decide) k72 (fun _ h9 => h9) rfl (by decide +kernel) rfl rfl (Nat.le_of_ble_eq_true rfl) (mm_0 cy ad _) dX4_mayWrite_31 (fun s31 H locs e31 hP hD hS => ?_)
      refine lv_aload_n hx hb dX4_mayWrite_34 rfl (lv_at hl 0 rfl) ?_
      refine lv_dup hx hb dX4_mayWrite_35 rfl ?_
      refine va_get (D := D) (ci := 4) (v := .int (s31 0 26)) (C := RX4) (T := TX4) (N := 29) hx hb hts in4 hown hK hP 0 (me_get (by omega) (mm_0 cy ad _)) rfl 26 (by decide) k88 (fun _ h9 => h9) rfl dX4_mayWrite_36 ?_
      refine lv_iconst (v := nI 1) hx hb dX4_mayWrite_39 (by decide) ?_
      refine lv_iadd hx hb dX4_mayWrite_40 ?_
      refine me_put (ty := .int) (ci := 4) (C := RX4) (T := TX4) (M := 29) hx hb hts in4 tyX4 tyX4_ok nmX4 hown hK hP hD hS 0 (by omega) (mm_0 cy ad _) rfl 26 (by decide) k88 (fun _ h9 => h9) rfl (by decide +kernel) rfl rfl (Nat.le_of_ble_eq_true rfl) (mm_0 cy ad _) dX4_mayWrite_41 (fun s41 H locs e41 hP hD hS => ?_)
      refine lv_iconst (v := nI 1) hx hb dX4_mayWrite_44 (by decide) ?_
      exact me_reti hx hb hr rfl hlocks hK hP hD hS (by simp only [m_mw, if_neg c4, if_neg c22, e31, e41]) dX4_mayWrite_45
  ·
    refine lv_aload_n hx hb dX4_mayWrite_7 rfl (lv_at hl 0 rfl) ?_
    refine me_callv (f := m_down σ) (w := (mm_W cy ad xr)) (σ := σ) (As := []) (rest := []) ⟨hx, hb, hml, hown, hts⟩ (fun sz => c_X4_goDown l D cy ad xr  σ  sz) (cwV 0 hts gX4_mayWrite_X4_goDown rfl rfl rfl (by decide +kernel) ⟨Nat.le_of_ble_eq_true rfl, Nat.le_of_ble_eq_true rfl⟩) (va_recv hK hP (ci := 4) (q0 := 0) rfl (me_get (by omega) (mm_0 cy ad _))) hK hP hD hS hA rfl hl.1 rfl (Nat.le_of_ble_eq_true rfl) dX4_mayWrite_8 ⟨Nat.zero_le _, Nat.zero_le _⟩ (fun s8 H locs e8 hP hD hS => ?_)
    refine lv_iconst (v := nI 0) hx hb dX4_mayWrite_11 (by decide) ?_
    exact me_reti hx hb hr rfl hlocks hK hP hD hS (by simp only [m_mw, if_pos c4, e8]) dX4_mayWrite_12
