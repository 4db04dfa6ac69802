/-! THE LAW'S OWN STEPS: a call of the class, its answer put into out, its throw told as a number -/
abbrev lh_o (cy : Nat → ClassId) (ao : Nat) (o : Nat → Int64) : Nat × va_E := (ao, .inl (cy 2, 1, .inr (.inl o)))
abbrev lh_W (cy : Nat → ClassId) (ad : Nat → Nat) (ao : Nat) (xr : va_W) (σ : me_M) (o : Nat → Int64) : va_W := kk_W cy ad (lh_o cy ao o :: xr) σ
theorem lh_get {E : Nat → (Nat → Int32) → va_E} {ad : Nat → Nat} {n : Nat} {z : Nat × va_E} {xr : va_W} {σ : me_M} : (me_w E ad n (z :: xr) σ)[n]? = some z := by
  unfold me_w
  rw [List.getElem?_append_right (by simp)]
  simp
theorem lh_set {E : Nat → (Nat → Int32) → va_E} {ad : Nat → Nat} {n : Nat} {z z' : Nat × va_E} {xr : va_W} {σ : me_M} : (me_w E ad n (z :: xr) σ).set n z' = me_w E ad n (z' :: xr) σ := by
  unfold me_w
  rw [List.set_append_right _ _ (by simp)]
  simp
/-- what a step answers and leaves: by what the class's method did -/
def lh_r (f : me_F) (c1 c2 : Int32) (o : Nat → Int64) : Int32 × me_M × (Nat → Int64) := if f.1 = 0 then (nI 0, f.2.2, vp_updL o 0 f.2.1.toInt64) else if f.1 = 1 then (c1, f.2.2, o) else (c2, f.2.2, o)
def lh_v (f : me_F) (c1 c2 : Int32) (o : Nat → Int64) : Int32 × me_M × (Nat → Int64) := if f.1 = 0 then (nI 0, f.2.2, o) else if f.1 = 1 then (c1, f.2.2, o) else (c2, f.2.2, o)
def lh_P (D : va_G) (tys : List (ClassId × FieldType)) (w : va_W) (sz : Nat) (sa : Nat → Nat) : State → Prop := fun U => me_Pe D tys w sz sa U ∧ va_Nc (ex_N 2) (ex_N 1) U
def lh_B (D : va_G) (tys : List (ClassId × FieldType)) (A : Nat → Prop) (w : me_M → (Nat → Int64) → va_W) : me_M × (Nat → Int64) → State → Prop := fun u t => va_P D vwCl (w u.1 u.2) t.heap ∧ va_K D vwCl tys t ∧ va_D A (w u.1 u.2)
def lh_C (l : Launch) (y : MethodName) (ws : List Cond) (rm : Room) (D : va_G) (tys : List (ClassId × FieldType)) (w : me_M → (Nat → Int64) → va_W) (av : List Value) (sz : Nat) (σ : me_M) (o : Nat → Int64) (sa : Nat → Nat) (f : Int32 × me_M × (Nat → Int64)) : Prop :=
  Met l y ws rm (va_Pc av (lh_P D tys (w σ o) sz sa)) (va_Qi (fun r u => (r, u) = f) (lh_B D tys (va_A (w σ o) sz) w) (va_A (w σ o) sz)) 1 6 (va_A (w σ o) sz)
section LHA
variable {p : Program} {l : Launch} {e : Env} {R : Room} {s : State} {m : MethodId} {args : Array Value} {below : List Frame} {meth : Method} {c : Code} {H : Heap} {locs : List Loc} {cells slots : Nat} {Q : State → Prop}
variable {cc : ByteArray} {pc : Nat} {ls : Array Slot} {rest st : List Value} {D : va_G} {A : Nat → Prop} {tys : List (ClassId × FieldType)} {σ : me_M} {o : Nat → Int64} {w : me_M → (Nat → Int64) → va_W}
theorem lh_ret {f : Int32 × me_M × (Nat → Int64)} {v : Int32} (hexec : p.tables.exec = Jvm.exec) (hb : c.code = cc) (hr : meth.sig.returnType = some .int) (hlocks : meth.locks = false) (hK : va_K D vwCl tys s) (hP : va_P D vwCl (w σ o) H) (hD : va_D A (w σ o)) (hS : va_S A s.heap H locs) (hc : cells ≤ 1) (hs : slots ≤ 6) (hf : (v, σ, o) = f) (hdg : decode cc pc = .ok (.ireturn, 1)) :
    W p l e R s m args below meth c H locs cells slots (MQ below (va_Qi (fun r u => (r, u) = f) (lh_B D tys A w) A) args s 1 6 A) (F0 m pc ls [.int v]) :=
  W.widen (k := 1) (n := 6) hc hs (W.iret (v := v) hexec hb hr (fun t ht hW => ⟨⟨v, (σ, o), rfl, hf, by rw [ht]; exact hP, va_K.moved hW.alike hK, hD⟩, hS.F ht⟩) hS.2.2 hdg hlocks)
end LHA
theorem pu_no1_sync (σ : me_M) (r : Int32) (s1 : me_M) : ¬ k_sync σ = (1, r, s1) := by
  intro h
  simp only [k_sync] at h
  repeat' (split at h)
  all_goals (have q := congrArg Prod.fst h; first | exact absurd (show (0 : Nat) = 1 from q) (by decide) | exact absurd (show (2 : Nat) = 1 from q) (by decide))
theorem pu_no1_checkpoint (σ : me_M) (r : Int32) (s1 : me_M) : ¬ k_cpt σ = (1, r, s1) := by
  intro h
  simp only [k_cpt] at h
  repeat' (split at h)
  all_goals (have q := congrArg Prod.fst h; first | exact absurd (show (0 : Nat) = 1 from q) (by decide) | exact absurd (show (2 : Nat) = 1 from q) (by decide))
theorem pu_no2_power (a : Int32) (σ : me_M) (r : Int32) (s1 : me_M) {k : Nat} (z : ¬ k = 0) (h1 : ¬ k = 1) : ¬ k_power a σ = (k, r, s1) := by
  intro h
  simp only [k_power] at h
  repeat' (split at h)
  all_goals (have q := congrArg Prod.fst h; first | exact z (show (0 : Nat) = k from q).symm | exact h1 (show (1 : Nat) = k from q).symm)
theorem pu_no1_recover (σ : me_M) (r : Int32) (s1 : me_M) : ¬ k_rec σ = (1, r, s1) := by
  intro h
  simp only [k_rec] at h
  repeat' (split at h)
  all_goals (have q := congrArg Prod.fst h; first | exact absurd (show (0 : Nat) = 1 from q) (by decide) | exact absurd (show (2 : Nat) = 1 from q) (by decide))
theorem pu_no1_cut (σ : me_M) (r : Int32) (s1 : me_M) : ¬ k_cut σ = (1, r, s1) := by
  intro h
  simp only [k_cut] at h
  repeat' (split at h)
  all_goals (have q := congrArg Prod.fst h; first | exact absurd (show (0 : Nat) = 1 from q) (by decide) | exact absurd (show (2 : Nat) = 1 from q) (by decide))
theorem pu_t_plvh (a b : Int32) (d : Nat) (σ : me_M) : (k_plvh a b d σ).1 = 0 ∨ (k_plvh a b d σ).1 = 1 := by
  simp only [k_plvh]
  repeat' split
  all_goals first | exact Or.inl rfl | exact Or.inr rfl
theorem pu_t_plvs (a b : Int32) (d : Nat) (σ : me_M) : (k_plvs a b d σ).1 = 0 ∨ (k_plvs a b d σ).1 = 1 := by
  simp only [k_plvs]
  repeat' split
  all_goals first | exact Or.inl rfl | exact Or.inr rfl
theorem pu_t_rcv (a b : Int32) (σ : me_M) : (k_rcv a b σ).1 = 0 ∨ (k_rcv a b σ).1 = 1 := by
  simp only [k_rcv]
  repeat' split
  all_goals first | exact Or.inl rfl | exact Or.inr rfl
theorem pu_t_mkv (a b : Int32) (σ : me_M) : (k_mkv a b σ).1 = 0 ∨ (k_mkv a b σ).1 = 1 := by
  simp only [k_mkv]
  repeat' split
  all_goals first | exact Or.inl rfl | exact Or.inr rfl
theorem pu_no2_disk (a : Int32) (b : Int32) (d : Int32) (σ : me_M) (r : Int32) (s1 : me_M) {k : Nat} (z : ¬ k = 0) (h1 : ¬ k = 1) : ¬ k_disk a b d σ = (k, r, s1) := by
  intro h
  simp only [k_disk] at h
  have q1 := pu_t_plvh b d 20 σ
  have q2 := pu_t_plvs b d 24 σ
  have q3 := pu_t_rcv b d σ
  have q4 := pu_t_mkv b d σ
  repeat' (split at h)
  all_goals (have q := congrArg Prod.fst h; first | exact z (show (0 : Nat) = k from q).symm | exact h1 (show (1 : Nat) = k from q).symm | (have t9 : (k_plvh b d 20 σ).1 = k := q; omega) | (have t9 : (k_plvs b d 24 σ).1 = k := q; omega) | (have t9 : (k_rcv b d σ).1 = k := q; omega) | (have t9 : (k_mkv b d σ).1 = k := q; omega))
theorem pu_no2_frame (a : Int32) (b : Int32) (σ : me_M) (r : Int32) (s1 : me_M) {k : Nat} (z : ¬ k = 0) (h1 : ¬ k = 1) : ¬ k_frame a b σ = (k, r, s1) := by
  intro h
  simp only [k_frame] at h
  repeat' (split at h)
  all_goals (have q := congrArg Prod.fst h; first | exact z (show (0 : Nat) = k from q).symm | exact h1 (show (1 : Nat) = k from q).symm)
theorem pu_no2_count (a : Int32) (σ : me_M) (r : Int32) (s1 : me_M) {k : Nat} (z : ¬ k = 0) (h1 : ¬ k = 1) : ¬ k_count a σ = (k, r, s1) := by
  intro h
  simp only [k_count] at h
  repeat' (split at h)
  all_goals (have q := congrArg Prod.fst h; first | exact z (show (0 : Nat) = k from q).symm | exact h1 (show (1 : Nat) = k from q).symm)
set_option maxRecDepth 100000 in
set_option maxHeartbeats 4000000 in
theorem c_L_change (l : Launch) (hln : l.stackTraces = false) (D : va_G) (cy : Nat → ClassId) (ad : Nat → Nat) (xr : va_W) (sa : Nat → Nat) (ao : Nat) (a : Int32) (b : Int32) (w : Int32) (x : Int32) (y : Int32) (σ : me_M) (o : Nat → Int64) (hI : k_I σ) (sz : Nat) : lh_C l yL_change wsL_change ({ frames := 7, cells := 1, slots := 6, locals := 149 }) D (me_T cy) (lh_W cy ad ao xr) [.ref (ad 0), .int a, .int b, .int w, .int x, .int y, .ref ao] sz σ o sa (lh_r (k_chg a b w x y σ) (nI 1) (nI 2) o) := by
  refine va_MetW (cc := cL_change) (maxL := 8) (ret := (some .int)) (hh := [(0, 16, 19, 13), (0, 16, 23, 15)]) (by decide) rfl ?_
  intro p e st m args below meth c s₁ B hml hv
  obtain ⟨rfl, ⟨⟨hsz, hP, hK, hD0⟩, hE⟩, hNc⟩ := hv
  have hx := B.exec
  have hb := B.bytes
  have hr := B.returns
  have hts := atoms_spec (ws := wsL_change) B.pre
  have hown : st.vm.findClass RL = some m.cls := findClass_of_methodNamed B.named
  have hlocks := B.notSynchronized
  have htab : c.exceptionTable.toList = tableOf [(0, 16, 19, 13), (0, 16, 23, 15)] := vx_table (x := yL_change) B (hts (.codeWith yL_change cL_change 8 (some .int) [(0, 16, 19, 13), (0, 16, 23, 15)]) List.mem_cons_self)
  have lk13 := hts (.classLink RL 13 "java/lang/IndexOutOfBoundsException") (by decide +kernel)
  have lk15 := hts (.classLink RL 15 "java/lang/IllegalStateException") (by decide +kernel)
  subst hsz
  have hD := hD0.self (sz := st.heap.size)
  have hA : ∀ q : Nat, st.heap.size ≤ q → va_A (lh_W cy ad ao xr σ o) st.heap.size q := fun q h => Or.inr h
  have hS : va_S (va_A (lh_W cy ad ao xr σ o) st.heap.size) st.heap st.heap [] := va_S.rf
  generalize va_A (lh_W cy ad ao xr σ o) st.heap.size = A at hD hA hS hE ⊢
  have hl := lv_entry ([.ref (ad 0), .int a, .int b, .int w, .int x, .int y, .ref ao]) (n := 8) (Nat.le_of_ble_eq_true rfl)
  rw [lg_entry_eq]
  generalize (lg_sl ([.ref (ad 0), .int a, .int b, .int w, .int x, .int y, .ref ao]) ++ List.replicate (8 - (lg_sl ([.ref (ad 0), .int a, .int b, .int w, .int x, .int y, .ref ao])).length) Slot.unset).toArray = ls at hl ⊢
  have hl : lv_has ls 8 [(0, .ref (ad 0)), (1, .int a), (2, .int b), (3, .int w), (4, .int x), (5, .int y), (6, .ref ao)] := hl
  refine lv_aload hx hb dL_change_0 (lv_at hl 6 rfl) ?_
  refine lv_iconst (v := nI 0) hx hb dL_change_2 (by decide) ?_
  refine lv_aload_n hx hb dL_change_3 rfl (lv_at hl 0 rfl) ?_
  refine lv_iload_n hx hb dL_change_4 rfl (lv_at hl 1 rfl) ?_
  refine lv_iload_n hx hb dL_change_5 rfl (lv_at hl 2 rfl) ?_
  refine lv_iload_n hx hb dL_change_6 rfl (lv_at hl 3 rfl) ?_
  refine lv_iload hx hb dL_change_7 (lv_at hl 4 rfl) ?_
  refine lv_iload hx hb dL_change_9 (lv_at hl 5 rfl) ?_
  refine me_xcalli (f := k_chg a b w x y σ) (w := fun σ => lh_W cy ad ao xr σ o) (σ := σ) (sa := sa) (As := [.int a, .int b, .int w, .int x, .int y]) (rest := [.int (nI 0), .ref ao]) ⟨hx, hb, hml, hown, hts⟩ (fun sz => c_X3_change l hln D cy ad (lh_o cy ao o :: xr) sa a b w x y σ hI sz) (cwV 5 hts gL_change_X3_change rfl rfl rfl (by decide +kernel) ⟨Nat.le_of_ble_eq_true rfl, Nat.le_of_ble_eq_true rfl⟩) (va_recv hK hP (ci := 3) (q0 := 0) rfl (me_get (by omega) (kk_0 cy ad _))) hE hK hP hD hS hA rfl hl.1 rfl (Nat.le_of_ble_eq_true rfl) dL_change_11 ⟨Nat.le_of_ble_eq_true rfl, Nat.le_of_ble_eq_true rfl⟩ (fun k s1 H locs q9 ce hk0 e1 hP hD hS hc1 hc2 hc3 => ?_) (fun r s1 H locs e1 hP hD hS => ?_)
  ·
    have z9 : ¬ k = 0 := Nat.pos_iff_ne_zero.mp hk0
    by_cases hk1 : k = 1
    ·
      subst hk1
      refine cx_caught hc1 (hpc := 19) (fun hpl => by rw [htab]; exact cx_yes (x := (⟨0, 16, 19, 13⟩ : ExceptionTableEntry)) hpl hown lk13 (hE.2.2.1 (.castable (ex_N 1) (ex_N 1)) (by decide +kernel)) hc3 hc2 (by decide) (by decide)) ?_
      refine lv_astore (x := q9) (lv' := [(7, .ref q9), (0, .ref (ad 0)), (1, .int a), (2, .int b), (3, .int w), (4, .int x), (5, .int y), (6, .ref ao)]) hx hb dL_change_19 hl (by decide) rfl (fun ls hl => ?_)
      refine lv_iconst (v := nI 1) hx hb dL_change_21 (by decide) ?_
      exact lh_ret (w := lh_W cy ad ao xr) (σ := s1) (o := o) hx hb hr hlocks hK hP hD hS (Nat.le_of_ble_eq_true rfl) (Nat.le_of_ble_eq_true rfl) (by simp only [lh_r, e1, if_neg z9, eq_self, if_true]) dL_change_22
    ·
      have hN : ex_N k = ex_N 2 := by simp only [ex_N, if_neg hk1]; rfl
      rw [hN] at hc3
      refine cx_caught hc1 (hpc := 23) (fun hpl => by rw [htab]; exact cx_no (x := (⟨0, 16, 19, 13⟩ : ExceptionTableEntry)) hpl hown lk13 hNc hc3 hc2 (by decide) (by decide) (cx_yes (x := (⟨0, 16, 23, 15⟩ : ExceptionTableEntry)) hpl hown lk15 (hE.2.2.1 (.castable (ex_N 2) (ex_N 2)) (by decide +kernel)) hc3 hc2 (by decide) (by decide))) ?_
      refine lv_astore (x := q9) (lv' := [(7, .ref q9), (0, .ref (ad 0)), (1, .int a), (2, .int b), (3, .int w), (4, .int x), (5, .int y), (6, .ref ao)]) hx hb dL_change_23 hl (by decide) rfl (fun ls hl => ?_)
      refine lv_iconst (v := nI 2) hx hb dL_change_25 (by decide) ?_
      exact lh_ret (w := lh_W cy ad ao xr) (σ := s1) (o := o) hx hb hr hlocks hK hP hD hS (Nat.le_of_ble_eq_true rfl) (Nat.le_of_ble_eq_true rfl) (by simp only [lh_r, e1, if_neg z9, if_neg hk1]) dL_change_26
  ·
    refine lv_i2l (v := r.toInt64) hx hb dL_change_14 rfl ?_
    refine va_last hx hb hK hP hD hS 102 2 lh_get rfl (i := nI 0) (vp_in_nI (by decide) (by decide)) dL_change_15 (fun H locs hP hD hS => ?_)
    rw [lh_set, nI_clamp (by decide)] at hP hD
    refine lv_goto (tgt := 27) hx hb dL_change_16 (by decide) ?_
    refine lv_iconst (v := nI 0) hx hb dL_change_27 (by decide) ?_
    exact lh_ret (w := lh_W cy ad ao xr) (σ := s1) (o := (vp_updL o 0 r.toInt64)) hx hb hr hlocks hK hP hD hS (Nat.le_of_ble_eq_true rfl) (Nat.le_of_ble_eq_true rfl) (by simp only [lh_r, e1, eq_self, if_true]) dL_change_28
set_option maxRecDepth 100000 in
set_option maxHeartbeats 4000000 in
theorem c_L_read (l : Launch) (hln : l.stackTraces = false) (D : va_G) (cy : Nat → ClassId) (ad : Nat → Nat) (xr : va_W) (sa : Nat → Nat) (ao : Nat) (a : Int32) (b : Int32) (σ : me_M) (o : Nat → Int64) (hI : k_I σ) (sz : Nat) : lh_C l yL_read wsL_read ({ frames := 7, cells := 1, slots := 6, locals := 146 }) D (me_T cy) (lh_W cy ad ao xr) [.ref (ad 0), .int a, .int b, .ref ao] sz σ o sa (lh_r (k_read a b σ) (nI 1) (nI 2) o) := by
  refine va_MetW (cc := cL_read) (maxL := 5) (ret := (some .int)) (hh := [(0, 10, 13, 13), (0, 10, 17, 15)]) (by decide) rfl ?_
  intro p e st m args below meth c s₁ B hml hv
  obtain ⟨rfl, ⟨⟨hsz, hP, hK, hD0⟩, hE⟩, hNc⟩ := hv
  have hx := B.exec
  have hb := B.bytes
  have hr := B.returns
  have hts := atoms_spec (ws := wsL_read) B.pre
  have hown : st.vm.findClass RL = some m.cls := findClass_of_methodNamed B.named
  have hlocks := B.notSynchronized
  have htab : c.exceptionTable.toList = tableOf [(0, 10, 13, 13), (0, 10, 17, 15)] := vx_table (x := yL_change) B (hts (.codeWith yL_read cL_read 5 (some .int) [(0, 10, 13, 13), (0, 10, 17, 15)]) List.mem_cons_self)
  have lk13 := hts (.classLink RL 13 "java/lang/IndexOutOfBoundsException") (by decide +kernel)
  have lk15 := hts (.classLink RL 15 "java/lang/IllegalStateException") (by decide +kernel)
  subst hsz
  have hD := hD0.self (sz := st.heap.size)
  have hA : ∀ q : Nat, st.heap.size ≤ q → va_A (lh_W cy ad ao xr σ o) st.heap.size q := fun q h => Or.inr h
  have hS : va_S (va_A (lh_W cy ad ao xr σ o) st.heap.size) st.heap st.heap [] := va_S.rf
  generalize va_A (lh_W cy ad ao xr σ o) st.heap.size = A at hD hA hS hE ⊢
  have hl := lv_entry ([.ref (ad 0), .int a, .int b, .ref ao]) (n := 5) (Nat.le_of_ble_eq_true rfl)
  rw [lg_entry_eq]
  generalize (lg_sl ([.ref (ad 0), .int a, .int b, .ref ao]) ++ List.replicate (5 - (lg_sl ([.ref (ad 0), .int a, .int b, .ref ao])).length) Slot.unset).toArray = ls at hl ⊢
  have hl : lv_has ls 5 [(0, .ref (ad 0)), (1, .int a), (2, .int b), (3, .ref ao)] := hl
  refine lv_aload_n hx hb dL_read_0 rfl (lv_at hl 3 rfl) ?_
  refine lv_iconst (v := nI 0) hx hb dL_read_1 (by decide) ?_
  refine lv_aload_n hx hb dL_read_2 rfl (lv_at hl 0 rfl) ?_
  refine lv_iload_n hx hb dL_read_3 rfl (lv_at hl 1 rfl) ?_
  refine lv_iload_n hx hb dL_read_4 rfl (lv_at hl 2 rfl) ?_
  refine me_xcalli (f := k_read a b σ) (w := fun σ => lh_W cy ad ao xr σ o) (σ := σ) (sa := sa) (As := [.int a, .int b]) (rest := [.int (nI 0), .ref ao]) ⟨hx, hb, hml, hown, hts⟩ (fun sz => c_X3_read l hln D cy ad (lh_o cy ao o :: xr) sa a b σ hI sz) (cwV 2 hts gL_read_X3_read rfl rfl rfl (by decide +kernel) ⟨Nat.le_of_ble_eq_true rfl, Nat.le_of_ble_eq_true rfl⟩) (va_recv hK hP (ci := 3) (q0 := 0) rfl (me_get (by omega) (kk_0 cy ad _))) hE hK hP hD hS hA rfl hl.1 rfl (Nat.le_of_ble_eq_true rfl) dL_read_5 ⟨Nat.le_of_ble_eq_true rfl, Nat.le_of_ble_eq_true rfl⟩ (fun k s1 H locs q9 ce hk0 e1 hP hD hS hc1 hc2 hc3 => ?_) (fun r s1 H locs e1 hP hD hS => ?_)
  ·
    have z9 : ¬ k = 0 := Nat.pos_iff_ne_zero.mp hk0
    by_cases hk1 : k = 1
    ·
      subst hk1
      refine cx_caught hc1 (hpc := 13) (fun hpl => by rw [htab]; exact cx_yes (x := (⟨0, 10, 13, 13⟩ : ExceptionTableEntry)) hpl hown lk13 (hE.2.2.1 (.castable (ex_N 1) (ex_N 1)) (by decide +kernel)) hc3 hc2 (by decide) (by decide)) ?_
      refine lv_astore (x := q9) (lv' := [(4, .ref q9), (0, .ref (ad 0)), (1, .int a), (2, .int b), (3, .ref ao)]) hx hb dL_read_13 hl (by decide) rfl (fun ls hl => ?_)
      refine lv_iconst (v := nI 1) hx hb dL_read_15 (by decide) ?_
      exact lh_ret (w := lh_W cy ad ao xr) (σ := s1) (o := o) hx hb hr hlocks hK hP hD hS (Nat.le_of_ble_eq_true rfl) (Nat.le_of_ble_eq_true rfl) (by simp only [lh_r, e1, if_neg z9, eq_self, if_true]) dL_read_16
    ·
      have hN : ex_N k = ex_N 2 := by simp only [ex_N, if_neg hk1]; rfl
      rw [hN] at hc3
      refine cx_caught hc1 (hpc := 17) (fun hpl => by rw [htab]; exact cx_no (x := (⟨0, 10, 13, 13⟩ : ExceptionTableEntry)) hpl hown lk13 hNc hc3 hc2 (by decide) (by decide) (cx_yes (x := (⟨0, 10, 17, 15⟩ : ExceptionTableEntry)) hpl hown lk15 (hE.2.2.1 (.castable (ex_N 2) (ex_N 2)) (by decide +kernel)) hc3 hc2 (by decide) (by decide))) ?_
      refine lv_astore (x := q9) (lv' := [(4, .ref q9), (0, .ref (ad 0)), (1, .int a), (2, .int b), (3, .ref ao)]) hx hb dL_read_17 hl (by decide) rfl (fun ls hl => ?_)
      refine lv_iconst (v := nI 2) hx hb dL_read_19 (by decide) ?_
      exact lh_ret (w := lh_W cy ad ao xr) (σ := s1) (o := o) hx hb hr hlocks hK hP hD hS (Nat.le_of_ble_eq_true rfl) (Nat.le_of_ble_eq_true rfl) (by simp only [lh_r, e1, if_neg z9, if_neg hk1]) dL_read_20
  ·
    refine lv_i2l (v := r.toInt64) hx hb dL_read_8 rfl ?_
    refine va_last hx hb hK hP hD hS 102 2 lh_get rfl (i := nI 0) (vp_in_nI (by decide) (by decide)) dL_read_9 (fun H locs hP hD hS => ?_)
    rw [lh_set, nI_clamp (by decide)] at hP hD
    refine lv_goto (tgt := 21) hx hb dL_read_10 (by decide) ?_
    refine lv_iconst (v := nI 0) hx hb dL_read_21 (by decide) ?_
    exact lh_ret (w := lh_W cy ad ao xr) (σ := s1) (o := (vp_updL o 0 r.toInt64)) hx hb hr hlocks hK hP hD hS (Nat.le_of_ble_eq_true rfl) (Nat.le_of_ble_eq_true rfl) (by simp only [lh_r, e1, eq_self, if_true]) dL_read_22
set_option maxRecDepth 100000 in
set_option maxHeartbeats 4000000 in
theorem c_L_sync (l : Launch) (hln : l.stackTraces = false) (D : va_G) (cy : Nat → ClassId) (ad : Nat → Nat) (xr : va_W) (sa : Nat → Nat) (ao : Nat)  (σ : me_M) (o : Nat → Int64) (hI : k_I σ) (sz : Nat) : lh_C l yL_sync wsL_sync ({ frames := 7, cells := 1, slots := 6, locals := 103 }) D (me_T cy) (lh_W cy ad ao xr) [.ref (ad 0), .ref ao] sz σ o sa (lh_r (k_sync σ) (nI 0) (nI 1) o) := by
  refine va_MetW (cc := cL_sync) (maxL := 3) (ret := (some .int)) (hh := [(0, 8, 11, 15)]) (by decide) rfl ?_
  intro p e st m args below meth c s₁ B hml hv
  obtain ⟨rfl, ⟨⟨hsz, hP, hK, hD0⟩, hE⟩, hNc⟩ := hv
  have hx := B.exec
  have hb := B.bytes
  have hr := B.returns
  have hts := atoms_spec (ws := wsL_sync) B.pre
  have hown : st.vm.findClass RL = some m.cls := findClass_of_methodNamed B.named
  have hlocks := B.notSynchronized
  have htab : c.exceptionTable.toList = tableOf [(0, 8, 11, 15)] := vx_table (x := yL_change) B (hts (.codeWith yL_sync cL_sync 3 (some .int) [(0, 8, 11, 15)]) List.mem_cons_self)
  have lk15 := hts (.classLink RL 15 "java/lang/IllegalStateException") (by decide +kernel)
  subst hsz
  have hD := hD0.self (sz := st.heap.size)
  have hA : ∀ q : Nat, st.heap.size ≤ q → va_A (lh_W cy ad ao xr σ o) st.heap.size q := fun q h => Or.inr h
  have hS : va_S (va_A (lh_W cy ad ao xr σ o) st.heap.size) st.heap st.heap [] := va_S.rf
  generalize va_A (lh_W cy ad ao xr σ o) st.heap.size = A at hD hA hS hE ⊢
  have hl := lv_entry ([.ref (ad 0), .ref ao]) (n := 3) (Nat.le_of_ble_eq_true rfl)
  rw [lg_entry_eq]
  generalize (lg_sl ([.ref (ad 0), .ref ao]) ++ List.replicate (3 - (lg_sl ([.ref (ad 0), .ref ao])).length) Slot.unset).toArray = ls at hl ⊢
  have hl : lv_has ls 3 [(0, .ref (ad 0)), (1, .ref ao)] := hl
  refine lv_aload_n hx hb dL_sync_0 rfl (lv_at hl 1 rfl) ?_
  refine lv_iconst (v := nI 0) hx hb dL_sync_1 (by decide) ?_
  refine lv_aload_n hx hb dL_sync_2 rfl (lv_at hl 0 rfl) ?_
  refine me_xcalli (f := k_sync σ) (w := fun σ => lh_W cy ad ao xr σ o) (σ := σ) (sa := sa) (As := []) (rest := [.int (nI 0), .ref ao]) ⟨hx, hb, hml, hown, hts⟩ (fun sz => c_X3_sync l hln D cy ad (lh_o cy ao o :: xr) sa  σ hI sz) (cwV 0 hts gL_sync_X3_sync rfl rfl rfl (by decide +kernel) ⟨Nat.le_of_ble_eq_true rfl, Nat.le_of_ble_eq_true rfl⟩) (va_recv hK hP (ci := 3) (q0 := 0) rfl (me_get (by omega) (kk_0 cy ad _))) hE hK hP hD hS hA rfl hl.1 rfl (Nat.le_of_ble_eq_true rfl) dL_sync_3 ⟨Nat.le_of_ble_eq_true rfl, Nat.le_of_ble_eq_true rfl⟩ (fun k s1 H locs q9 ce hk0 e1 hP hD hS hc1 hc2 hc3 => ?_) (fun r s1 H locs e1 hP hD hS => ?_)
  ·
    have z9 : ¬ k = 0 := Nat.pos_iff_ne_zero.mp hk0
    by_cases hk1 : k = 1
    ·
      subst hk1
      exact absurd e1 (pu_no1_sync _ _ _)
    ·
      have hN : ex_N k = ex_N 2 := by simp only [ex_N, if_neg hk1]; rfl
      rw [hN] at hc3
      refine cx_caught hc1 (hpc := 11) (fun hpl => by rw [htab]; exact cx_yes (x := (⟨0, 8, 11, 15⟩ : ExceptionTableEntry)) hpl hown lk15 (hE.2.2.1 (.castable (ex_N 2) (ex_N 2)) (by decide +kernel)) hc3 hc2 (by decide) (by decide)) ?_
      refine lv_astore_n (x := q9) (lv' := [(2, .ref q9), (0, .ref (ad 0)), (1, .ref ao)]) hx hb dL_sync_11 rfl hl (by decide) rfl (fun ls hl => ?_)
      refine lv_iconst (v := nI 1) hx hb dL_sync_12 (by decide) ?_
      exact lh_ret (w := lh_W cy ad ao xr) (σ := s1) (o := o) hx hb hr hlocks hK hP hD hS (Nat.le_of_ble_eq_true rfl) (Nat.le_of_ble_eq_true rfl) (by simp only [lh_r, e1, if_neg z9, if_neg hk1]) dL_sync_13
  ·
    refine lv_i2l (v := r.toInt64) hx hb dL_sync_6 rfl ?_
    refine va_last hx hb hK hP hD hS 102 2 lh_get rfl (i := nI 0) (vp_in_nI (by decide) (by decide)) dL_sync_7 (fun H locs hP hD hS => ?_)
    rw [lh_set, nI_clamp (by decide)] at hP hD
    refine lv_goto (tgt := 14) hx hb dL_sync_8 (by decide) ?_
    refine lv_iconst (v := nI 0) hx hb dL_sync_14 (by decide) ?_
    exact lh_ret (w := lh_W cy ad ao xr) (σ := s1) (o := (vp_updL o 0 r.toInt64)) hx hb hr hlocks hK hP hD hS (Nat.le_of_ble_eq_true rfl) (Nat.le_of_ble_eq_true rfl) (by simp only [lh_r, e1, eq_self, if_true]) dL_sync_15
set_option maxRecDepth 100000 in
set_option maxHeartbeats 4000000 in
theorem c_L_checkpoint (l : Launch) (hln : l.stackTraces = false) (D : va_G) (cy : Nat → ClassId) (ad : Nat → Nat) (xr : va_W) (sa : Nat → Nat) (ao : Nat)  (σ : me_M) (o : Nat → Int64) (hI : k_I σ) (sz : Nat) : lh_C l yL_checkpoint wsL_checkpoint ({ frames := 7, cells := 1, slots := 6, locals := 142 }) D (me_T cy) (lh_W cy ad ao xr) [.ref (ad 0), .ref ao] sz σ o sa (lh_r (k_cpt σ) (nI 0) (nI 1) o) := by
  refine va_MetW (cc := cL_checkpoint) (maxL := 3) (ret := (some .int)) (hh := [(0, 8, 11, 15)]) (by decide) rfl ?_
  intro p e st m args below meth c s₁ B hml hv
  obtain ⟨rfl, ⟨⟨hsz, hP, hK, hD0⟩, hE⟩, hNc⟩ := hv
  have hx := B.exec
  have hb := B.bytes
  have hr := B.returns
  have hts := atoms_spec (ws := wsL_checkpoint) B.pre
  have hown : st.vm.findClass RL = some m.cls := findClass_of_methodNamed B.named
  have hlocks := B.notSynchronized
  have htab : c.exceptionTable.toList = tableOf [(0, 8, 11, 15)] := vx_table (x := yL_change) B (hts (.codeWith yL_checkpoint cL_checkpoint 3 (some .int) [(0, 8, 11, 15)]) List.mem_cons_self)
  have lk15 := hts (.classLink RL 15 "java/lang/IllegalStateException") (by decide +kernel)
  subst hsz
  have hD := hD0.self (sz := st.heap.size)
  have hA : ∀ q : Nat, st.heap.size ≤ q → va_A (lh_W cy ad ao xr σ o) st.heap.size q := fun q h => Or.inr h
  have hS : va_S (va_A (lh_W cy ad ao xr σ o) st.heap.size) st.heap st.heap [] := va_S.rf
  generalize va_A (lh_W cy ad ao xr σ o) st.heap.size = A at hD hA hS hE ⊢
  have hl := lv_entry ([.ref (ad 0), .ref ao]) (n := 3) (Nat.le_of_ble_eq_true rfl)
  rw [lg_entry_eq]
  generalize (lg_sl ([.ref (ad 0), .ref ao]) ++ List.replicate (3 - (lg_sl ([.ref (ad 0), .ref ao])).length) Slot.unset).toArray = ls at hl ⊢
  have hl : lv_has ls 3 [(0, .ref (ad 0)), (1, .ref ao)] := hl
  refine lv_aload_n hx hb dL_checkpoint_0 rfl (lv_at hl 1 rfl) ?_
  refine lv_iconst (v := nI 0) hx hb dL_checkpoint_1 (by decide) ?_
  refine lv_aload_n hx hb dL_checkpoint_2 rfl (lv_at hl 0 rfl) ?_
  refine me_xcalli (f := k_cpt σ) (w := fun σ => lh_W cy ad ao xr σ o) (σ := σ) (sa := sa) (As := []) (rest := [.int (nI 0), .ref ao]) ⟨hx, hb, hml, hown, hts⟩ (fun sz => c_X3_checkpoint l hln D cy ad (lh_o cy ao o :: xr) sa  σ hI sz) (cwV 0 hts gL_checkpoint_X3_checkpoint rfl rfl rfl (by decide +kernel) ⟨Nat.le_of_ble_eq_true rfl, Nat.le_of_ble_eq_true rfl⟩) (va_recv hK hP (ci := 3) (q0 := 0) rfl (me_get (by omega) (kk_0 cy ad _))) hE hK hP hD hS hA rfl hl.1 rfl (Nat.le_of_ble_eq_true rfl) dL_checkpoint_3 ⟨Nat.le_of_ble_eq_true rfl, Nat.le_of_ble_eq_true rfl⟩ (fun k s1 H locs q9 ce hk0 e1 hP hD hS hc1 hc2 hc3 => ?_) (fun r s1 H locs e1 hP hD hS => ?_)
  ·
    have z9 : ¬ k = 0 := Nat.pos_iff_ne_zero.mp hk0
    by_cases hk1 : k = 1
    ·
      subst hk1
      exact absurd e1 (pu_no1_checkpoint _ _ _)
    ·
      have hN : ex_N k = ex_N 2 := by simp only [ex_N, if_neg hk1]; rfl
      rw [hN] at hc3
      refine cx_caught hc1 (hpc := 11) (fun hpl => by rw [htab]; exact cx_yes (x := (⟨0, 8, 11, 15⟩ : ExceptionTableEntry)) hpl hown lk15 (hE.2.2.1 (.castable (ex_N 2) (ex_N 2)) (by decide +kernel)) hc3 hc2 (by decide) (by decide)) ?_
      refine lv_astore_n (x := q9) (lv' := [(2, .ref q9), (0, .ref (ad 0)), (1, .ref ao)]) hx hb dL_checkpoint_11 rfl hl (by decide) rfl (fun ls hl => ?_)
      refine lv_iconst (v := nI 1) hx hb dL_checkpoint_12 (by decide) ?_
      exact lh_ret (w := lh_W cy ad ao xr) (σ := s1) (o := o) hx hb hr hlocks hK hP hD hS (Nat.le_of_ble_eq_true rfl) (Nat.le_of_ble_eq_true rfl) (by simp only [lh_r, e1, if_neg z9, if_neg hk1]) dL_checkpoint_13
  ·
    refine lv_i2l (v := r.toInt64) hx hb dL_checkpoint_6 rfl ?_
    refine va_last hx hb hK hP hD hS 102 2 lh_get rfl (i := nI 0) (vp_in_nI (by decide) (by decide)) dL_checkpoint_7 (fun H locs hP hD hS => ?_)
    rw [lh_set, nI_clamp (by decide)] at hP hD
    refine lv_goto (tgt := 14) hx hb dL_checkpoint_8 (by decide) ?_
    refine lv_iconst (v := nI 0) hx hb dL_checkpoint_14 (by decide) ?_
    exact lh_ret (w := lh_W cy ad ao xr) (σ := s1) (o := (vp_updL o 0 r.toInt64)) hx hb hr hlocks hK hP hD hS (Nat.le_of_ble_eq_true rfl) (Nat.le_of_ble_eq_true rfl) (by simp only [lh_r, e1, eq_self, if_true]) dL_checkpoint_15
set_option maxRecDepth 100000 in
set_option maxHeartbeats 4000000 in
theorem c_L_power (l : Launch) (hln : l.stackTraces = false) (D : va_G) (cy : Nat → ClassId) (ad : Nat → Nat) (xr : va_W) (sa : Nat → Nat) (ao : Nat) (a : Int32) (σ : me_M) (o : Nat → Int64)  (sz : Nat) : lh_C l yL_power wsL_power ({ frames := 7, cells := 1, slots := 6, locals := 103 }) D (me_T cy) (lh_W cy ad ao xr) [.ref (ad 0), .int a] sz σ o sa (lh_v (k_power a σ) (nI 1) (nI 0) o) := by
  refine va_MetW (cc := cL_power) (maxL := 3) (ret := (some .int)) (hh := [(0, 5, 8, 13)]) (by decide) rfl ?_
  intro p e st m args below meth c s₁ B hml hv
  obtain ⟨rfl, ⟨⟨hsz, hP, hK, hD0⟩, hE⟩, hNc⟩ := hv
  have hx := B.exec
  have hb := B.bytes
  have hr := B.returns
  have hts := atoms_spec (ws := wsL_power) B.pre
  have hown : st.vm.findClass RL = some m.cls := findClass_of_methodNamed B.named
  have hlocks := B.notSynchronized
  have htab : c.exceptionTable.toList = tableOf [(0, 5, 8, 13)] := vx_table (x := yL_change) B (hts (.codeWith yL_power cL_power 3 (some .int) [(0, 5, 8, 13)]) List.mem_cons_self)
  have lk13 := hts (.classLink RL 13 "java/lang/IndexOutOfBoundsException") (by decide +kernel)
  subst hsz
  have hD := hD0.self (sz := st.heap.size)
  have hA : ∀ q : Nat, st.heap.size ≤ q → va_A (lh_W cy ad ao xr σ o) st.heap.size q := fun q h => Or.inr h
  have hS : va_S (va_A (lh_W cy ad ao xr σ o) st.heap.size) st.heap st.heap [] := va_S.rf
  generalize va_A (lh_W cy ad ao xr σ o) st.heap.size = A at hD hA hS hE ⊢
  have hl := lv_entry ([.ref (ad 0), .int a]) (n := 3) (Nat.le_of_ble_eq_true rfl)
  rw [lg_entry_eq]
  generalize (lg_sl ([.ref (ad 0), .int a]) ++ List.replicate (3 - (lg_sl ([.ref (ad 0), .int a])).length) Slot.unset).toArray = ls at hl ⊢
  have hl : lv_has ls 3 [(0, .ref (ad 0)), (1, .int a)] := hl
  refine lv_aload_n hx hb dL_power_0 rfl (lv_at hl 0 rfl) ?_
  refine lv_iload_n hx hb dL_power_1 rfl (lv_at hl 1 rfl) ?_
  refine me_xcallv (f := k_power a σ) (w := fun σ => lh_W cy ad ao xr σ o) (σ := σ) (sa := sa) (As := [.int a]) (rest := []) ⟨hx, hb, hml, hown, hts⟩ (fun sz => c_X3_power l hln D cy ad (lh_o cy ao o :: xr) sa a σ  sz) (cwV 1 hts gL_power_X3_power rfl rfl rfl (by decide +kernel) ⟨Nat.le_of_ble_eq_true rfl, Nat.le_of_ble_eq_true rfl⟩) (va_recv hK hP (ci := 3) (q0 := 0) rfl (me_get (by omega) (kk_0 cy ad _))) hE hK hP hD hS hA rfl hl.1 rfl (Nat.le_of_ble_eq_true rfl) dL_power_2 ⟨Nat.le_of_ble_eq_true rfl, Nat.le_of_ble_eq_true rfl⟩ (fun k s1 H locs q9 ce hk0 e1 hP hD hS hc1 hc2 hc3 => ?_) (fun s1 H locs e1 hP hD hS => ?_)
  ·
    have z9 : ¬ k = 0 := Nat.pos_iff_ne_zero.mp hk0
    by_cases hk1 : k = 1
    ·
      subst hk1
      refine cx_caught hc1 (hpc := 8) (fun hpl => by rw [htab]; exact cx_yes (x := (⟨0, 5, 8, 13⟩ : ExceptionTableEntry)) hpl hown lk13 (hE.2.2.1 (.castable (ex_N 1) (ex_N 1)) (by decide +kernel)) hc3 hc2 (by decide) (by decide)) ?_
      refine lv_astore_n (x := q9) (lv' := [(2, .ref q9), (0, .ref (ad 0)), (1, .int a)]) hx hb dL_power_8 rfl hl (by decide) rfl (fun ls hl => ?_)
      refine lv_iconst (v := nI 1) hx hb dL_power_9 (by decide) ?_
      exact lh_ret (w := lh_W cy ad ao xr) (σ := s1) (o := o) hx hb hr hlocks hK hP hD hS (Nat.le_of_ble_eq_true rfl) (Nat.le_of_ble_eq_true rfl) (by simp only [lh_v, e1, if_neg z9, eq_self, if_true]) dL_power_10
    ·
      exact absurd e1 (pu_no2_power _ _ _ _ z9 hk1)
  ·
    refine lv_goto (tgt := 11) hx hb dL_power_5 (by decide) ?_
    refine lv_iconst (v := nI 0) hx hb dL_power_11 (by decide) ?_
    exact lh_ret (w := lh_W cy ad ao xr) (σ := s1) (o := o) hx hb hr hlocks hK hP hD hS (Nat.le_of_ble_eq_true rfl) (Nat.le_of_ble_eq_true rfl) (by simp only [lh_v, e1, eq_self, if_true]) dL_power_12
set_option maxRecDepth 100000 in
set_option maxHeartbeats 4000000 in
theorem c_L_recover (l : Launch) (hln : l.stackTraces = false) (D : va_G) (cy : Nat → ClassId) (ad : Nat → Nat) (xr : va_W) (sa : Nat → Nat) (ao : Nat)  (σ : me_M) (o : Nat → Int64) (hI : k_I σ) (sz : Nat) : lh_C l yL_recover wsL_recover ({ frames := 7, cells := 1, slots := 6, locals := 168 }) D (me_T cy) (lh_W cy ad ao xr) [.ref (ad 0), .ref ao] sz σ o sa (lh_r (k_rec σ) (nI 0) (nI 1) o) := by
  refine va_MetW (cc := cL_recover) (maxL := 3) (ret := (some .int)) (hh := [(0, 8, 11, 15)]) (by decide) rfl ?_
  intro p e st m args below meth c s₁ B hml hv
  obtain ⟨rfl, ⟨⟨hsz, hP, hK, hD0⟩, hE⟩, hNc⟩ := hv
  have hx := B.exec
  have hb := B.bytes
  have hr := B.returns
  have hts := atoms_spec (ws := wsL_recover) B.pre
  have hown : st.vm.findClass RL = some m.cls := findClass_of_methodNamed B.named
  have hlocks := B.notSynchronized
  have htab : c.exceptionTable.toList = tableOf [(0, 8, 11, 15)] := vx_table (x := yL_change) B (hts (.codeWith yL_recover cL_recover 3 (some .int) [(0, 8, 11, 15)]) List.mem_cons_self)
  have lk15 := hts (.classLink RL 15 "java/lang/IllegalStateException") (by decide +kernel)
  subst hsz
  have hD := hD0.self (sz := st.heap.size)
  have hA : ∀ q : Nat, st.heap.size ≤ q → va_A (lh_W cy ad ao xr σ o) st.heap.size q := fun q h => Or.inr h
  have hS : va_S (va_A (lh_W cy ad ao xr σ o) st.heap.size) st.heap st.heap [] := va_S.rf
  generalize va_A (lh_W cy ad ao xr σ o) st.heap.size = A at hD hA hS hE ⊢
  have hl := lv_entry ([.ref (ad 0), .ref ao]) (n := 3) (Nat.le_of_ble_eq_true rfl)
  rw [lg_entry_eq]
  generalize (lg_sl ([.ref (ad 0), .ref ao]) ++ List.replicate (3 - (lg_sl ([.ref (ad 0), .ref ao])).length) Slot.unset).toArray = ls at hl ⊢
  have hl : lv_has ls 3 [(0, .ref (ad 0)), (1, .ref ao)] := hl
  refine lv_aload_n hx hb dL_recover_0 rfl (lv_at hl 1 rfl) ?_
  refine lv_iconst (v := nI 0) hx hb dL_recover_1 (by decide) ?_
  refine lv_aload_n hx hb dL_recover_2 rfl (lv_at hl 0 rfl) ?_
  refine me_xcalli (f := k_rec σ) (w := fun σ => lh_W cy ad ao xr σ o) (σ := σ) (sa := sa) (As := []) (rest := [.int (nI 0), .ref ao]) ⟨hx, hb, hml, hown, hts⟩ (fun sz => c_X3_recover l hln D cy ad (lh_o cy ao o :: xr) sa  σ hI sz) (cwV 0 hts gL_recover_X3_recover rfl rfl rfl (by decide +kernel) ⟨Nat.le_of_ble_eq_true rfl, Nat.le_of_ble_eq_true rfl⟩) (va_recv hK hP (ci := 3) (q0 := 0) rfl (me_get (by omega) (kk_0 cy ad _))) hE hK hP hD hS hA rfl hl.1 rfl (Nat.le_of_ble_eq_true rfl) dL_recover_3 ⟨Nat.le_of_ble_eq_true rfl, Nat.le_of_ble_eq_true rfl⟩ (fun k s1 H locs q9 ce hk0 e1 hP hD hS hc1 hc2 hc3 => ?_) (fun r s1 H locs e1 hP hD hS => ?_)
  ·
    have z9 : ¬ k = 0 := Nat.pos_iff_ne_zero.mp hk0
    by_cases hk1 : k = 1
    ·
      subst hk1
      exact absurd e1 (pu_no1_recover _ _ _)
    ·
      have hN : ex_N k = ex_N 2 := by simp only [ex_N, if_neg hk1]; rfl
      rw [hN] at hc3
      refine cx_caught hc1 (hpc := 11) (fun hpl => by rw [htab]; exact cx_yes (x := (⟨0, 8, 11, 15⟩ : ExceptionTableEntry)) hpl hown lk15 (hE.2.2.1 (.castable (ex_N 2) (ex_N 2)) (by decide +kernel)) hc3 hc2 (by decide) (by decide)) ?_
      refine lv_astore_n (x := q9) (lv' := [(2, .ref q9), (0, .ref (ad 0)), (1, .ref ao)]) hx hb dL_recover_11 rfl hl (by decide) rfl (fun ls hl => ?_)
      refine lv_iconst (v := nI 1) hx hb dL_recover_12 (by decide) ?_
      exact lh_ret (w := lh_W cy ad ao xr) (σ := s1) (o := o) hx hb hr hlocks hK hP hD hS (Nat.le_of_ble_eq_true rfl) (Nat.le_of_ble_eq_true rfl) (by simp only [lh_r, e1, if_neg z9, if_neg hk1]) dL_recover_13
  ·
    refine lv_i2l (v := r.toInt64) hx hb dL_recover_6 rfl ?_
    refine va_last hx hb hK hP hD hS 102 2 lh_get rfl (i := nI 0) (vp_in_nI (by decide) (by decide)) dL_recover_7 (fun H locs hP hD hS => ?_)
    rw [lh_set, nI_clamp (by decide)] at hP hD
    refine lv_goto (tgt := 14) hx hb dL_recover_8 (by decide) ?_
    refine lv_iconst (v := nI 0) hx hb dL_recover_14 (by decide) ?_
    exact lh_ret (w := lh_W cy ad ao xr) (σ := s1) (o := (vp_updL o 0 r.toInt64)) hx hb hr hlocks hK hP hD hS (Nat.le_of_ble_eq_true rfl) (Nat.le_of_ble_eq_true rfl) (by simp only [lh_r, e1, eq_self, if_true]) dL_recover_15
set_option maxRecDepth 100000 in
set_option maxHeartbeats 4000000 in
theorem c_L_cut (l : Launch) (hln : l.stackTraces = false) (D : va_G) (cy : Nat → ClassId) (ad : Nat → Nat) (xr : va_W) (sa : Nat → Nat) (ao : Nat)  (σ : me_M) (o : Nat → Int64)  (sz : Nat) : lh_C l yL_cut wsL_cut ({ frames := 7, cells := 1, slots := 6, locals := 103 }) D (me_T cy) (lh_W cy ad ao xr) [.ref (ad 0), .ref ao] sz σ o sa (lh_r (k_cut σ) (nI 0) (nI 1) o) := by
  refine va_MetW (cc := cL_cut) (maxL := 3) (ret := (some .int)) (hh := [(0, 8, 11, 15)]) (by decide) rfl ?_
  intro p e st m args below meth c s₁ B hml hv
  obtain ⟨rfl, ⟨⟨hsz, hP, hK, hD0⟩, hE⟩, hNc⟩ := hv
  have hx := B.exec
  have hb := B.bytes
  have hr := B.returns
  have hts := atoms_spec (ws := wsL_cut) B.pre
  have hown : st.vm.findClass RL = some m.cls := findClass_of_methodNamed B.named
  have hlocks := B.notSynchronized
  have htab : c.exceptionTable.toList = tableOf [(0, 8, 11, 15)] := vx_table (x := yL_change) B (hts (.codeWith yL_cut cL_cut 3 (some .int) [(0, 8, 11, 15)]) List.mem_cons_self)
  have lk15 := hts (.classLink RL 15 "java/lang/IllegalStateException") (by decide +kernel)
  subst hsz
  have hD := hD0.self (sz := st.heap.size)
  have hA : ∀ q : Nat, st.heap.size ≤ q → va_A (lh_W cy ad ao xr σ o) st.heap.size q := fun q h => Or.inr h
  have hS : va_S (va_A (lh_W cy ad ao xr σ o) st.heap.size) st.heap st.heap [] := va_S.rf
  generalize va_A (lh_W cy ad ao xr σ o) st.heap.size = A at hD hA hS hE ⊢
  have hl := lv_entry ([.ref (ad 0), .ref ao]) (n := 3) (Nat.le_of_ble_eq_true rfl)
  rw [lg_entry_eq]
  generalize (lg_sl ([.ref (ad 0), .ref ao]) ++ List.replicate (3 - (lg_sl ([.ref (ad 0), .ref ao])).length) Slot.unset).toArray = ls at hl ⊢
  have hl : lv_has ls 3 [(0, .ref (ad 0)), (1, .ref ao)] := hl
  refine lv_aload_n hx hb dL_cut_0 rfl (lv_at hl 1 rfl) ?_
  refine lv_iconst (v := nI 0) hx hb dL_cut_1 (by decide) ?_
  refine lv_aload_n hx hb dL_cut_2 rfl (lv_at hl 0 rfl) ?_
  refine me_xcalli (f := k_cut σ) (w := fun σ => lh_W cy ad ao xr σ o) (σ := σ) (sa := sa) (As := []) (rest := [.int (nI 0), .ref ao]) ⟨hx, hb, hml, hown, hts⟩ (fun sz => c_X3_cut l hln D cy ad (lh_o cy ao o :: xr) sa  σ  sz) (cwV 0 hts gL_cut_X3_cut rfl rfl rfl (by decide +kernel) ⟨Nat.le_of_ble_eq_true rfl, Nat.le_of_ble_eq_true rfl⟩) (va_recv hK hP (ci := 3) (q0 := 0) rfl (me_get (by omega) (kk_0 cy ad _))) hE hK hP hD hS hA rfl hl.1 rfl (Nat.le_of_ble_eq_true rfl) dL_cut_3 ⟨Nat.le_of_ble_eq_true rfl, Nat.le_of_ble_eq_true rfl⟩ (fun k s1 H locs q9 ce hk0 e1 hP hD hS hc1 hc2 hc3 => ?_) (fun r s1 H locs e1 hP hD hS => ?_)
  ·
    have z9 : ¬ k = 0 := Nat.pos_iff_ne_zero.mp hk0
    by_cases hk1 : k = 1
    ·
      subst hk1
      exact absurd e1 (pu_no1_cut _ _ _)
    ·
      have hN : ex_N k = ex_N 2 := by simp only [ex_N, if_neg hk1]; rfl
      rw [hN] at hc3
      refine cx_caught hc1 (hpc := 11) (fun hpl => by rw [htab]; exact cx_yes (x := (⟨0, 8, 11, 15⟩ : ExceptionTableEntry)) hpl hown lk15 (hE.2.2.1 (.castable (ex_N 2) (ex_N 2)) (by decide +kernel)) hc3 hc2 (by decide) (by decide)) ?_
      refine lv_astore_n (x := q9) (lv' := [(2, .ref q9), (0, .ref (ad 0)), (1, .ref ao)]) hx hb dL_cut_11 rfl hl (by decide) rfl (fun ls hl => ?_)
      refine lv_iconst (v := nI 1) hx hb dL_cut_12 (by decide) ?_
      exact lh_ret (w := lh_W cy ad ao xr) (σ := s1) (o := o) hx hb hr hlocks hK hP hD hS (Nat.le_of_ble_eq_true rfl) (Nat.le_of_ble_eq_true rfl) (by simp only [lh_r, e1, if_neg z9, if_neg hk1]) dL_cut_13
  ·
    refine lv_i2l (v := r.toInt64) hx hb dL_cut_6 rfl ?_
    refine va_last hx hb hK hP hD hS 102 2 lh_get rfl (i := nI 0) (vp_in_nI (by decide) (by decide)) dL_cut_7 (fun H locs hP hD hS => ?_)
    rw [lh_set, nI_clamp (by decide)] at hP hD
    refine lv_goto (tgt := 14) hx hb dL_cut_8 (by decide) ?_
    refine lv_iconst (v := nI 0) hx hb dL_cut_14 (by decide) ?_
    exact lh_ret (w := lh_W cy ad ao xr) (σ := s1) (o := (vp_updL o 0 r.toInt64)) hx hb hr hlocks hK hP hD hS (Nat.le_of_ble_eq_true rfl) (Nat.le_of_ble_eq_true rfl) (by simp only [lh_r, e1, eq_self, if_true]) dL_cut_15
set_option maxRecDepth 100000 in
set_option maxHeartbeats 4000000 in
theorem c_L_disk (l : Launch) (hln : l.stackTraces = false) (D : va_G) (cy : Nat → ClassId) (ad : Nat → Nat) (xr : va_W) (sa : Nat → Nat) (ao : Nat) (a : Int32) (b : Int32) (d : Int32) (σ : me_M) (o : Nat → Int64)  (sz : Nat) : lh_C l yL_disk wsL_disk ({ frames := 8, cells := 1, slots := 6, locals := 128 }) D (me_T cy) (lh_W cy ad ao xr) [.ref (ad 0), .int a, .int b, .int d, .ref ao] sz σ o sa (lh_r (k_disk a b d σ) (nI 1) (nI 0) o) := by
  refine va_MetW (cc := cL_disk) (maxL := 6) (ret := (some .int)) (hh := [(0, 12, 15, 13)]) (by decide) rfl ?_
  intro p e st m args below meth c s₁ B hml hv
  obtain ⟨rfl, ⟨⟨hsz, hP, hK, hD0⟩, hE⟩, hNc⟩ := hv
  have hx := B.exec
  have hb := B.bytes
  have hr := B.returns
  have hts := atoms_spec (ws := wsL_disk) B.pre
  have hown : st.vm.findClass RL = some m.cls := findClass_of_methodNamed B.named
  have hlocks := B.notSynchronized
  have htab : c.exceptionTable.toList = tableOf [(0, 12, 15, 13)] := vx_table (x := yL_change) B (hts (.codeWith yL_disk cL_disk 6 (some .int) [(0, 12, 15, 13)]) List.mem_cons_self)
  have lk13 := hts (.classLink RL 13 "java/lang/IndexOutOfBoundsException") (by decide +kernel)
  subst hsz
  have hD := hD0.self (sz := st.heap.size)
  have hA : ∀ q : Nat, st.heap.size ≤ q → va_A (lh_W cy ad ao xr σ o) st.heap.size q := fun q h => Or.inr h
  have hS : va_S (va_A (lh_W cy ad ao xr σ o) st.heap.size) st.heap st.heap [] := va_S.rf
  generalize va_A (lh_W cy ad ao xr σ o) st.heap.size = A at hD hA hS hE ⊢
  have hl := lv_entry ([.ref (ad 0), .int a, .int b, .int d, .ref ao]) (n := 6) (Nat.le_of_ble_eq_true rfl)
  rw [lg_entry_eq]
  generalize (lg_sl ([.ref (ad 0), .int a, .int b, .int d, .ref ao]) ++ List.replicate (6 - (lg_sl ([.ref (ad 0), .int a, .int b, .int d, .ref ao])).length) Slot.unset).toArray = ls at hl ⊢
  have hl : lv_has ls 6 [(0, .ref (ad 0)), (1, .int a), (2, .int b), (3, .int d), (4, .ref ao)] := hl
  refine lv_aload hx hb dL_disk_0 (lv_at hl 4 rfl) ?_
  refine lv_iconst (v := nI 0) hx hb dL_disk_2 (by decide) ?_
  refine lv_aload_n hx hb dL_disk_3 rfl (lv_at hl 0 rfl) ?_
  refine lv_iload_n hx hb dL_disk_4 rfl (lv_at hl 1 rfl) ?_
  refine lv_iload_n hx hb dL_disk_5 rfl (lv_at hl 2 rfl) ?_
  refine lv_iload_n hx hb dL_disk_6 rfl (lv_at hl 3 rfl) ?_
  refine me_xcalli (f := k_disk a b d σ) (w := fun σ => lh_W cy ad ao xr σ o) (σ := σ) (sa := sa) (As := [.int a, .int b, .int d]) (rest := [.int (nI 0), .ref ao]) ⟨hx, hb, hml, hown, hts⟩ (fun sz => c_X3_disk l hln D cy ad (lh_o cy ao o :: xr) sa a b d σ  sz) (cwV 3 hts gL_disk_X3_disk rfl rfl rfl (by decide +kernel) ⟨Nat.le_of_ble_eq_true rfl, Nat.le_of_ble_eq_true rfl⟩) (va_recv hK hP (ci := 3) (q0 := 0) rfl (me_get (by omega) (kk_0 cy ad _))) hE hK hP hD hS hA rfl hl.1 rfl (Nat.le_of_ble_eq_true rfl) dL_disk_7 ⟨Nat.le_of_ble_eq_true rfl, Nat.le_of_ble_eq_true rfl⟩ (fun k s1 H locs q9 ce hk0 e1 hP hD hS hc1 hc2 hc3 => ?_) (fun r s1 H locs e1 hP hD hS => ?_)
  ·
    have z9 : ¬ k = 0 := Nat.pos_iff_ne_zero.mp hk0
    by_cases hk1 : k = 1
    ·
      subst hk1
      refine cx_caught hc1 (hpc := 15) (fun hpl => by rw [htab]; exact cx_yes (x := (⟨0, 12, 15, 13⟩ : ExceptionTableEntry)) hpl hown lk13 (hE.2.2.1 (.castable (ex_N 1) (ex_N 1)) (by decide +kernel)) hc3 hc2 (by decide) (by decide)) ?_
      refine lv_astore (x := q9) (lv' := [(5, .ref q9), (0, .ref (ad 0)), (1, .int a), (2, .int b), (3, .int d), (4, .ref ao)]) hx hb dL_disk_15 hl (by decide) rfl (fun ls hl => ?_)
      refine lv_iconst (v := nI 1) hx hb dL_disk_17 (by decide) ?_
      exact lh_ret (w := lh_W cy ad ao xr) (σ := s1) (o := o) hx hb hr hlocks hK hP hD hS (Nat.le_of_ble_eq_true rfl) (Nat.le_of_ble_eq_true rfl) (by simp only [lh_r, e1, if_neg z9, eq_self, if_true]) dL_disk_18
    ·
      exact absurd e1 (pu_no2_disk _ _ _ _ _ _ z9 hk1)
  ·
    refine lv_i2l (v := r.toInt64) hx hb dL_disk_10 rfl ?_
    refine va_last hx hb hK hP hD hS 102 2 lh_get rfl (i := nI 0) (vp_in_nI (by decide) (by decide)) dL_disk_11 (fun H locs hP hD hS => ?_)
    rw [lh_set, nI_clamp (by decide)] at hP hD
    refine lv_goto (tgt := 19) hx hb dL_disk_12 (by decide) ?_
    refine lv_iconst (v := nI 0) hx hb dL_disk_19 (by decide) ?_
    exact lh_ret (w := lh_W cy ad ao xr) (σ := s1) (o := (vp_updL o 0 r.toInt64)) hx hb hr hlocks hK hP hD hS (Nat.le_of_ble_eq_true rfl) (Nat.le_of_ble_eq_true rfl) (by simp only [lh_r, e1, eq_self, if_true]) dL_disk_20
set_option maxRecDepth 100000 in
set_option maxHeartbeats 4000000 in
theorem c_L_frame (l : Launch) (hln : l.stackTraces = false) (D : va_G) (cy : Nat → ClassId) (ad : Nat → Nat) (xr : va_W) (sa : Nat → Nat) (ao : Nat) (a : Int32) (b : Int32) (σ : me_M) (o : Nat → Int64)  (sz : Nat) : lh_C l yL_frame wsL_frame ({ frames := 7, cells := 1, slots := 6, locals := 104 }) D (me_T cy) (lh_W cy ad ao xr) [.ref (ad 0), .int a, .int b, .ref ao] sz σ o sa (lh_r (k_frame a b σ) (nI 1) (nI 0) o) := by
  refine va_MetW (cc := cL_frame) (maxL := 5) (ret := (some .int)) (hh := [(0, 10, 13, 13)]) (by decide) rfl ?_
  intro p e st m args below meth c s₁ B hml hv
  obtain ⟨rfl, ⟨⟨hsz, hP, hK, hD0⟩, hE⟩, hNc⟩ := hv
  have hx := B.exec
  have hb := B.bytes
  have hr := B.returns
  have hts := atoms_spec (ws := wsL_frame) B.pre
  have hown : st.vm.findClass RL = some m.cls := findClass_of_methodNamed B.named
  have hlocks := B.notSynchronized
  have htab : c.exceptionTable.toList = tableOf [(0, 10, 13, 13)] := vx_table (x := yL_change) B (hts (.codeWith yL_frame cL_frame 5 (some .int) [(0, 10, 13, 13)]) List.mem_cons_self)
  have lk13 := hts (.classLink RL 13 "java/lang/IndexOutOfBoundsException") (by decide +kernel)
  subst hsz
  have hD := hD0.self (sz := st.heap.size)
  have hA : ∀ q : Nat, st.heap.size ≤ q → va_A (lh_W cy ad ao xr σ o) st.heap.size q := fun q h => Or.inr h
  have hS : va_S (va_A (lh_W cy ad ao xr σ o) st.heap.size) st.heap st.heap [] := va_S.rf
  generalize va_A (lh_W cy ad ao xr σ o) st.heap.size = A at hD hA hS hE ⊢
  have hl := lv_entry ([.ref (ad 0), .int a, .int b, .ref ao]) (n := 5) (Nat.le_of_ble_eq_true rfl)
  rw [lg_entry_eq]
  generalize (lg_sl ([.ref (ad 0), .int a, .int b, .ref ao]) ++ List.replicate (5 - (lg_sl ([.ref (ad 0), .int a, .int b, .ref ao])).length) Slot.unset).toArray = ls at hl ⊢
  have hl : lv_has ls 5 [(0, .ref (ad 0)), (1, .int a), (2, .int b), (3, .ref ao)] := hl
  refine lv_aload_n hx hb dL_frame_0 rfl (lv_at hl 3 rfl) ?_
  refine lv_iconst (v := nI 0) hx hb dL_frame_1 (by decide) ?_
  refine lv_aload_n hx hb dL_frame_2 rfl (lv_at hl 0 rfl) ?_
  refine lv_iload_n hx hb dL_frame_3 rfl (lv_at hl 1 rfl) ?_
  refine lv_iload_n hx hb dL_frame_4 rfl (lv_at hl 2 rfl) ?_
  refine me_xcalli (f := k_frame a b σ) (w := fun σ => lh_W cy ad ao xr σ o) (σ := σ) (sa := sa) (As := [.int a, .int b]) (rest := [.int (nI 0), .ref ao]) ⟨hx, hb, hml, hown, hts⟩ (fun sz => c_X3_frame l hln D cy ad (lh_o cy ao o :: xr) sa a b σ  sz) (cwV 2 hts gL_frame_X3_frame rfl rfl rfl (by decide +kernel) ⟨Nat.le_of_ble_eq_true rfl, Nat.le_of_ble_eq_true rfl⟩) (va_recv hK hP (ci := 3) (q0 := 0) rfl (me_get (by omega) (kk_0 cy ad _))) hE hK hP hD hS hA rfl hl.1 rfl (Nat.le_of_ble_eq_true rfl) dL_frame_5 ⟨Nat.le_of_ble_eq_true rfl, Nat.le_of_ble_eq_true rfl⟩ (fun k s1 H locs q9 ce hk0 e1 hP hD hS hc1 hc2 hc3 => ?_) (fun r s1 H locs e1 hP hD hS => ?_)
  ·
    have z9 : ¬ k = 0 := Nat.pos_iff_ne_zero.mp hk0
    by_cases hk1 : k = 1
    ·
      subst hk1
      refine cx_caught hc1 (hpc := 13) (fun hpl => by rw [htab]; exact cx_yes (x := (⟨0, 10, 13, 13⟩ : ExceptionTableEntry)) hpl hown lk13 (hE.2.2.1 (.castable (ex_N 1) (ex_N 1)) (by decide +kernel)) hc3 hc2 (by decide) (by decide)) ?_
      refine lv_astore (x := q9) (lv' := [(4, .ref q9), (0, .ref (ad 0)), (1, .int a), (2, .int b), (3, .ref ao)]) hx hb dL_frame_13 hl (by decide) rfl (fun ls hl => ?_)
      refine lv_iconst (v := nI 1) hx hb dL_frame_15 (by decide) ?_
      exact lh_ret (w := lh_W cy ad ao xr) (σ := s1) (o := o) hx hb hr hlocks hK hP hD hS (Nat.le_of_ble_eq_true rfl) (Nat.le_of_ble_eq_true rfl) (by simp only [lh_r, e1, if_neg z9, eq_self, if_true]) dL_frame_16
    ·
      exact absurd e1 (pu_no2_frame _ _ _ _ _ z9 hk1)
  ·
    refine lv_i2l (v := r.toInt64) hx hb dL_frame_8 rfl ?_
    refine va_last hx hb hK hP hD hS 102 2 lh_get rfl (i := nI 0) (vp_in_nI (by decide) (by decide)) dL_frame_9 (fun H locs hP hD hS => ?_)
    rw [lh_set, nI_clamp (by decide)] at hP hD
    refine lv_goto (tgt := 17) hx hb dL_frame_10 (by decide) ?_
    refine lv_iconst (v := nI 0) hx hb dL_frame_17 (by decide) ?_
    exact lh_ret (w := lh_W cy ad ao xr) (σ := s1) (o := (vp_updL o 0 r.toInt64)) hx hb hr hlocks hK hP hD hS (Nat.le_of_ble_eq_true rfl) (Nat.le_of_ble_eq_true rfl) (by simp only [lh_r, e1, eq_self, if_true]) dL_frame_18
set_option maxRecDepth 100000 in
set_option maxHeartbeats 4000000 in
theorem c_L_count (l : Launch) (hln : l.stackTraces = false) (D : va_G) (cy : Nat → ClassId) (ad : Nat → Nat) (xr : va_W) (sa : Nat → Nat) (ao : Nat) (a : Int32) (σ : me_M) (o : Nat → Int64)  (sz : Nat) : lh_C l yL_count wsL_count ({ frames := 7, cells := 1, slots := 6, locals := 103 }) D (me_T cy) (lh_W cy ad ao xr) [.ref (ad 0), .int a, .ref ao] sz σ o sa (lh_r (k_count a σ) (nI 1) (nI 0) o) := by
  refine va_MetW (cc := cL_count) (maxL := 4) (ret := (some .int)) (hh := [(0, 9, 12, 13)]) (by decide) rfl ?_
  intro p e st m args below meth c s₁ B hml hv
  obtain ⟨rfl, ⟨⟨hsz, hP, hK, hD0⟩, hE⟩, hNc⟩ := hv
  have hx := B.exec
  have hb := B.bytes
  have hr := B.returns
  have hts := atoms_spec (ws := wsL_count) B.pre
  have hown : st.vm.findClass RL = some m.cls := findClass_of_methodNamed B.named
  have hlocks := B.notSynchronized
  have htab : c.exceptionTable.toList = tableOf [(0, 9, 12, 13)] := vx_table (x := yL_change) B (hts (.codeWith yL_count cL_count 4 (some .int) [(0, 9, 12, 13)]) List.mem_cons_self)
  have lk13 := hts (.classLink RL 13 "java/lang/IndexOutOfBoundsException") (by decide +kernel)
  subst hsz
  have hD := hD0.self (sz := st.heap.size)
  have hA : ∀ q : Nat, st.heap.size ≤ q → va_A (lh_W cy ad ao xr σ o) st.heap.size q := fun q h => Or.inr h
  have hS : va_S (va_A (lh_W cy ad ao xr σ o) st.heap.size) st.heap st.heap [] := va_S.rf
  generalize va_A (lh_W cy ad ao xr σ o) st.heap.size = A at hD hA hS hE ⊢
  have hl := lv_entry ([.ref (ad 0), .int a, .ref ao]) (n := 4) (Nat.le_of_ble_eq_true rfl)
  rw [lg_entry_eq]
  generalize (lg_sl ([.ref (ad 0), .int a, .ref ao]) ++ List.replicate (4 - (lg_sl ([.ref (ad 0), .int a, .ref ao])).length) Slot.unset).toArray = ls at hl ⊢
  have hl : lv_has ls 4 [(0, .ref (ad 0)), (1, .int a), (2, .ref ao)] := hl
  refine lv_aload_n hx hb dL_count_0 rfl (lv_at hl 2 rfl) ?_
  refine lv_iconst (v := nI 0) hx hb dL_count_1 (by decide) ?_
  refine lv_aload_n hx hb dL_count_2 rfl (lv_at hl 0 rfl) ?_
  refine lv_iload_n hx hb dL_count_3 rfl (lv_at hl 1 rfl) ?_
  refine me_xcalli (f := k_count a σ) (w := fun σ => lh_W cy ad ao xr σ o) (σ := σ) (sa := sa) (As := [.int a]) (rest := [.int (nI 0), .ref ao]) ⟨hx, hb, hml, hown, hts⟩ (fun sz => c_X3_count l hln D cy ad (lh_o cy ao o :: xr) sa a σ  sz) (cwV 1 hts gL_count_X3_count rfl rfl rfl (by decide +kernel) ⟨Nat.le_of_ble_eq_true rfl, Nat.le_of_ble_eq_true rfl⟩) (va_recv hK hP (ci := 3) (q0 := 0) rfl (me_get (by omega) (kk_0 cy ad _))) hE hK hP hD hS hA rfl hl.1 rfl (Nat.le_of_ble_eq_true rfl) dL_count_4 ⟨Nat.le_of_ble_eq_true rfl, Nat.le_of_ble_eq_true rfl⟩ (fun k s1 H locs q9 ce hk0 e1 hP hD hS hc1 hc2 hc3 => ?_) (fun r s1 H locs e1 hP hD hS => ?_)
  ·
    have z9 : ¬ k = 0 := Nat.pos_iff_ne_zero.mp hk0
    by_cases hk1 : k = 1
    ·
      subst hk1
      refine cx_caught hc1 (hpc := 12) (fun hpl => by rw [htab]; exact cx_yes (x := (⟨0, 9, 12, 13⟩ : ExceptionTableEntry)) hpl hown lk13 (hE.2.2.1 (.castable (ex_N 1) (ex_N 1)) (by decide +kernel)) hc3 hc2 (by decide) (by decide)) ?_
      refine lv_astore_n (x := q9) (lv' := [(3, .ref q9), (0, .ref (ad 0)), (1, .int a), (2, .ref ao)]) hx hb dL_count_12 rfl hl (by decide) rfl (fun ls hl => ?_)
      refine lv_iconst (v := nI 1) hx hb dL_count_13 (by decide) ?_
      exact lh_ret (w := lh_W cy ad ao xr) (σ := s1) (o := o) hx hb hr hlocks hK hP hD hS (Nat.le_of_ble_eq_true rfl) (Nat.le_of_ble_eq_true rfl) (by simp only [lh_r, e1, if_neg z9, eq_self, if_true]) dL_count_14
    ·
      exact absurd e1 (pu_no2_count _ _ _ _ z9 hk1)
  ·
    refine lv_i2l (v := r.toInt64) hx hb dL_count_7 rfl ?_
    refine va_last hx hb hK hP hD hS 102 2 lh_get rfl (i := nI 0) (vp_in_nI (by decide) (by decide)) dL_count_8 (fun H locs hP hD hS => ?_)
    rw [lh_set, nI_clamp (by decide)] at hP hD
    refine lv_goto (tgt := 15) hx hb dL_count_9 (by decide) ?_
    refine lv_iconst (v := nI 0) hx hb dL_count_15 (by decide) ?_
    exact lh_ret (w := lh_W cy ad ao xr) (σ := s1) (o := (vp_updL o 0 r.toInt64)) hx hb hr hlocks hK hP hD hS (Nat.le_of_ble_eq_true rfl) (Nat.le_of_ble_eq_true rfl) (by simp only [lh_r, e1, eq_self, if_true]) dL_count_16
