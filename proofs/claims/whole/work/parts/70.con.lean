/-! CONSTRUCTORS: worlds that grow behind a front ws0 -/
theorem co_get {ws0 L : va_W} {k : Nat} {x : Nat × va_E} (h : L[k]? = some x) : (ws0 ++ L)[ws0.length + k]? = some x := by
  rw [List.getElem?_append_right (Nat.le_add_right _ _), Nat.add_sub_cancel_left]
  exact h
theorem co_set {ws0 L : va_W} {k : Nat} {x : Nat × va_E} : (ws0 ++ L).set (ws0.length + k) x = ws0 ++ L.set k x := by
  rw [List.set_append_right _ _ (Nat.le_add_right _ _), Nat.add_sub_cancel_left]
theorem co_cls {D : va_G} {cl : List vw_C} {tys : List (ClassId × FieldType)} {cA c0 : ClassId} {ty : FieldType} {s : State} {t : Nat} (h : va_K D cl (tys ++ [(cA, ty)]) s) (ht : tys[t]? = some (c0, ty)) : cA = c0 := by
  have h1 := (h.2 tys.length (cA, ty) (by simp)).2
  have h2 := (h.2 t (c0, ty) (by rw [List.getElem?_append_left (List.getElem?_eq_some_iff.mp ht).1]; exact ht)).2
  cases ty with
  | object C =>
    obtain ⟨_, _, -, -, -, e1⟩ := h1
    obtain ⟨_, _, -, -, -, e2⟩ := h2
    exact Option.some.inj (e1.symm.trans e2)
  | _ => exact Option.some.inj (Eq.trans (Eq.symm h1) h2)
/-- a constructor: from the world w on, one of the worlds B -/
def co_C {S : Type} (l : Launch) (y : MethodName) (ws : List Cond) (rm : Room) (D : va_G) (tys : List (ClassId × FieldType)) (av : List Value) (w : va_W) (B : S → va_W) (sz mc ms : Nat) : Prop :=
  Met l y ws rm (va_Pc av (me_P D tys w sz)) (va_Qv (fun _ => True) (fun u t => va_P D vwCl (B u) t.heap ∧ va_K D vwCl tys t ∧ va_D (va_A w sz) (B u)) (va_A w sz)) mc ms (va_A w sz)
/-- the address of the object itself is known, the others are those that came -/
def co_ad (q0 : Nat) (r : Nat → Nat) : Nat → Nat := fun i => if i = 0 then q0 else r i
theorem co_ad_self (r : Nat → Nat) : co_ad (r 0) r = r := by
  funext i
  unfold co_ad
  by_cases h : i = 0 <;> simp [h]
def co_fl (i : Nat) (x : Int32) : Nat → Int32 := fun j => if j < i then x else 0
theorem co_fl_0 (x : Int32) : co_fl 0 x = fun _ => 0 := by funext j; simp [co_fl]
theorem co_fl_s (i : Nat) (x : Int32) : upd (co_fl i x) i x = co_fl (i + 1) x := by
  funext j
  unfold upd co_fl
  by_cases h : j = i
  · simp [h]
  · simp only [h, if_false]
    by_cases h2 : j < i
    · rw [if_pos h2, if_pos (by omega)]
    · rw [if_neg h2, if_neg (by omega)]
section COA
variable {p : Program} {l : Launch} {e : Env} {R : Room} {s : State} {m : MethodId} {args : Array Value} {below : List Frame} {meth : Method} {c : Code} {H : Heap} {locs : List Loc} {cells slots : Nat} {Q : State → Prop}
variable {cc : ByteArray} {pc : Nat} {ls : Array Slot} {rest st : List Value} {D : va_G} {A : Nat → Prop} {a : Nat} {tys : List (ClassId × FieldType)} {ws0 L : va_W} {H0 : Heap}
theorem co_newa (hexec : p.tables.exec = Jvm.exec) (hb : c.code = cc) {atype : ArrayType} (harr : (Cond.arrayClass (newarray.typeOf atype)).before args s = true) {ty : FieldType} (hty : newarray.typeOf atype = ty) (hK : va_K D vwCl tys s) {t : Nat} {c0 : ClassId} (ht : tys[t]? = some (c0, ty)) (hP : va_P D vwCl (ws0 ++ L) H) (hD : va_D A (ws0 ++ L)) (hS : va_S A H0 H locs) (hA : ∀ q, H0.size ≤ q → A q)
    {n : Int32} {N' : Nat} {a0 : vp_A} (ha : ∀ cA : ClassId, vp_cell cA a0 = arrV cA N' (fun _ => defaultValue ty)) (hn : ¬ n < 0) (hN : n.toNatClampNeg = N') (hbytes : N' * componentBytes ty ≤ 536870912) (hcells : cells + 1 ≤ R.cells) (hslots : slots + N' ≤ R.slots) {L' : Nat → va_W} (hL : ∀ q, L ++ [(q, .inl (c0, a0))] = L' q) (hdg : decode cc pc = .ok (.newarray atype, 2))
    (kk : ∀ (q : Nat) (H1 : Heap), va_P D vwCl (ws0 ++ L' q) H1 → va_D A (ws0 ++ L' q) → va_S A H0 H1 locs → W p l e R s m args below meth c H1 locs (cells + 1) (slots + N') Q (F0 m (pc + 2) ls (.ref q :: rest))) : W p l e R s m args below meth c H locs cells slots Q (F0 m pc ls (.int n :: rest)) := by
  refine va_newa hexec hb harr hty hK hP hD hS hA ha hn hN hbytes hcells hslots hdg (fun q cA H1 hK1 h1 h2 h3 => ?_)
  rw [co_cls hK1 ht, List.append_assoc, hL] at h1 h2
  exact kk q H1 h1 h2 h3
theorem co_newq (hexec : p.tables.exec = Jvm.exec) (hb : c.code = cc) {own C : String} {index : Nat} (hown : s.vm.findClass own = some m.cls) (hclink : (Cond.classLink own index C).before args s = true) (hover : va_AO C s) (hK : va_K D vwCl tys s) {t : Nat} {c0 : ClassId} (ht : tys[t]? = some (c0, .object C)) (hP : va_P D vwCl (ws0 ++ L) H) (hD : va_D A (ws0 ++ L)) (hS : va_S A H0 H locs) (hA : ∀ q, H0.size ≤ q → A q)
    {n : Int32} {N' : Nat} (hn : ¬ n < 0) (hN : n.toNatClampNeg = N') (hbytes : N' * 4 ≤ 536870912) (hcells : cells + 1 ≤ R.cells) (hslots : slots + N' ≤ R.slots) {L' : Nat → va_W} (hL : ∀ q, L ++ [(q, .inl (c0, N', .inr (.inr (.inr (.inr (fun _ => none))))))] = L' q) (hdg : decode cc pc = .ok (.anewarray index, 3))
    (kk : ∀ (q : Nat) (H1 : Heap), va_P D vwCl (ws0 ++ L' q) H1 → va_D A (ws0 ++ L' q) → va_S A H0 H1 locs → W p l e R s m args below meth c H1 locs (cells + 1) (slots + N') Q (F0 m (pc + 3) ls (.ref q :: rest))) : W p l e R s m args below meth c H locs cells slots Q (F0 m pc ls (.int n :: rest)) := by
  refine va_newq hexec hb hown hclink hover hK hP hD hS hA hn hN hbytes hcells hslots hdg (fun q cA H1 hK1 h1 h2 h3 => ?_)
  rw [co_cls hK1 ht, List.append_assoc, hL] at h1 h2
  exact kk q H1 h1 h2 h3
theorem co_putF (hexec : p.tables.exec = Jvm.exec) (hb : c.code = cc) {own ref C : String} {T : u_T} {N ci index : Nat} {Ts : List Cond} (hts : ∀ w ∈ Ts, w.before args s = true) (hin : ∀ w ∈ u_ws C T N, w ∈ Ts) (ty0 : Nat → FieldType) (hty : ∀ k, k < N → parseFieldDescriptor (T k).2.2.1 = some (ty0 k)) (hnm : ∀ a, a < N → ∀ b, b < N → a ≠ b → (T a).2.1 ≠ (T b).2.1) (hown : s.vm.findClass own = some m.cls) (hK : va_K D vwCl tys s) (hP : va_P D vwCl (ws0 ++ L) H) (hD : va_D A (ws0 ++ L)) (hS0 : va_S A H0 H locs) (q0 : Nat) {fs : List Value} (he : L[q0]? = some (a, .inr (ci, fs))) (hc : vwCl[ci]? = some (C, T, N)) (k : Nat) (hk : k < N) (hlink : (Cond.fieldLink own index ref (T k).2.1 (T k).2.2.1).before args s = true) (hsame : ∀ x, s.fieldFound? (T k).1 (T k).2.1 (T k).2.2.1 = some x → s.fieldFound? ref (T k).2.1 (T k).2.2.1 = some x) (hfin : (T k).2.2.2 = true) (hin2 : meth.name = "<init>") (hdecl : (T k).1 = own) {ty : FieldType} {v : Value} (hd : parseFieldDescriptor (T k).2.2.1 = some ty) (hn : narrow ty v = v) (hfit : fits ty v = true) (hl : k < fs.length)
    (hdg : decode cc pc = .ok (.putfield index, 3)) (kk : ∀ (H1 : Heap) (locs1 : List Loc), va_P D vwCl (ws0 ++ L.set q0 (a, .inr (ci, fs.set k v))) H1 → va_D A (ws0 ++ L.set q0 (a, .inr (ci, fs.set k v))) → va_S A H0 H1 locs1 → W p l e R s m args below meth c H1 locs1 cells slots Q (F0 m (pc + 3) ls rest)) : W p l e R s m args below meth c H locs cells slots Q (F0 m pc ls (v :: .ref a :: rest)) := by
  refine va_putF hexec hb hts hin ty0 hty hnm hown hK hP hD hS0 (ws0.length + q0) (co_get he) hc k hk hlink hsame hfin hin2 hdecl hd hn hfit hl hdg (fun H1 locs1 h1 h2 h3 => ?_)
  rw [co_set] at h1 h2
  exact kk H1 locs1 h1 h2 h3
theorem co_put (hexec : p.tables.exec = Jvm.exec) (hb : c.code = cc) {own ref C : String} {T : u_T} {N ci index : Nat} {Ts : List Cond} (hts : ∀ w ∈ Ts, w.before args s = true) (hin : ∀ w ∈ u_ws C T N, w ∈ Ts) (ty0 : Nat → FieldType) (hty : ∀ k, k < N → parseFieldDescriptor (T k).2.2.1 = some (ty0 k)) (hnm : ∀ a, a < N → ∀ b, b < N → a ≠ b → (T a).2.1 ≠ (T b).2.1) (hown : s.vm.findClass own = some m.cls) (hK : va_K D vwCl tys s) (hP : va_P D vwCl (ws0 ++ L) H) (hD : va_D A (ws0 ++ L)) (hS0 : va_S A H0 H locs) (q0 : Nat) {fs : List Value} (he : L[q0]? = some (a, .inr (ci, fs))) (hc : vwCl[ci]? = some (C, T, N)) (k : Nat) (hk : k < N) (hlink : (Cond.fieldLink own index ref (T k).2.1 (T k).2.2.1).before args s = true) (hsame : ∀ x, s.fieldFound? (T k).1 (T k).2.1 (T k).2.2.1 = some x → s.fieldFound? ref (T k).2.1 (T k).2.2.1 = some x) (hfin : (T k).2.2.2 = false) {ty : FieldType} {v : Value} (hd : parseFieldDescriptor (T k).2.2.1 = some ty) (hn : narrow ty v = v) (hfit : fits ty v = true) (hl : k < fs.length)
    (hdg : decode cc pc = .ok (.putfield index, 3)) (kk : ∀ (H1 : Heap) (locs1 : List Loc), va_P D vwCl (ws0 ++ L.set q0 (a, .inr (ci, fs.set k v))) H1 → va_D A (ws0 ++ L.set q0 (a, .inr (ci, fs.set k v))) → va_S A H0 H1 locs1 → W p l e R s m args below meth c H1 locs1 cells slots Q (F0 m (pc + 3) ls rest)) : W p l e R s m args below meth c H locs cells slots Q (F0 m pc ls (v :: .ref a :: rest)) := by
  refine va_put hexec hb hts hin ty0 hty hnm hown hK hP hD hS0 (ws0.length + q0) (co_get he) hc k hk hlink hsame hfin hd hn hfit hl hdg (fun H1 locs1 h1 h2 h3 => ?_)
  rw [co_set] at h1 h2
  exact kk H1 locs1 h1 h2 h3
theorem co_iast (hexec : p.tables.exec = Jvm.exec) (hb : c.code = cc) (hK : va_K D vwCl tys s) (hP : va_P D vwCl (ws0 ++ L) H) (hD : va_D A (ws0 ++ L)) (hS : va_S A H0 H locs) (i t0 : Nat) {cA : ClassId} {z : Nat} {f : Nat → Int32} (he : L[i]? = some (a, .inl (cA, z, .inl f))) (ht : tys[t0]? = some (cA, .int)) {j x : Int32} (k : Nat) (hj : j = nI k) (hk : k < z) (hz : z < 2 ^ 31) (hdg : decode cc pc = .ok (.iastore, 1))
    (kk : ∀ (H1 : Heap) (locs1 : List Loc), va_P D vwCl (ws0 ++ L.set i (a, .inl (cA, z, .inl (upd f k x)))) H1 → va_D A (ws0 ++ L.set i (a, .inl (cA, z, .inl (upd f k x)))) → va_S A H0 H1 locs1 → W p l e R s m args below meth c H1 locs1 cells slots Q (F0 m (pc + 1) ls rest)) : W p l e R s m args below meth c H locs cells slots Q (F0 m pc ls (.int x :: .int j :: .ref a :: rest)) := by
  subst hj
  refine va_iast hexec hb hK hP hD hS (ws0.length + i) t0 (co_get he) ht (vp_in_nI hk hz) hdg (fun H1 locs1 h1 h2 h3 => ?_)
  rw [nI_clamp (Nat.lt_trans hk hz), co_set] at h1 h2
  exact kk H1 locs1 h1 h2 h3
theorem co_ret {S : Type} {B : S → va_W} {mc ms : Nat} (hexec : p.tables.exec = Jvm.exec) (hb : c.code = cc) (hr : meth.sig.returnType = none) (hlocks : meth.locks = false) (hK : va_K D vwCl tys s) {u : S} (hP : va_P D vwCl (B u) H) (hD : va_D A (B u)) (hS : va_S A s.heap H locs) (hdg : decode cc pc = .ok (.return_, 1)) :
    W p l e R s m args below meth c H locs mc ms (MQ below (va_Qv (fun _ => True) (fun u t => va_P D vwCl (B u) t.heap ∧ va_K D vwCl tys t ∧ va_D A (B u)) A) args s mc ms A) (F0 m pc ls []) :=
  W.vret hexec hb hr (fun t ht hW => ⟨⟨u, rfl, trivial, by rw [ht]; exact hP, va_K.moved hW.alike hK, hD⟩, hS.F ht⟩) hS.2.2 hdg hlocks
end COA
set_option maxRecDepth 100000 in
set_option maxHeartbeats 4000000 in
theorem c_X0_init (l : Launch) (D : va_G) (cy : Nat → ClassId) (ws0 : va_W) (q0 : Nat) (sz : Nat) : co_C l yX0_init wsX0_init ({ frames := 1, cells := 0, slots := 0, locals := 12 }) D (me_T cy) [.ref q0] (ws0 ++ [(q0, .inr (0, [.int 0, .int 0, .int 0, .int 0]))]) (fun _ : Unit => ws0 ++ [(q0, .inr (0, [.int (nI 0), .int (nI 0), .int (nI 0), .int (nI 0)]))]) sz 0 0 := by
  refine Met.ofW (cc := cX0_init) (maxL := 1) (ret := none) (by decide) rfl ?_
  intro p e st m args below meth c s₁ B hml hv
  obtain ⟨rfl, hsz, hP, hK, hD0⟩ := hv
  have hx := B.exec
  have hb := B.bytes
  have hr := B.returns
  have hts := atoms_spec (ws := wsX0_init) B.pre
  have hown : st.vm.findClass RX0 = some m.cls := findClass_of_methodNamed B.named
  have hlocks := B.notSynchronized
  have hin : meth.name = "<init>" := (name_of_methodNamed B.named B.method).1
  have inF : ∀ w ∈ u_ws RX0 TX0 4, w ∈ wsX0_init := by decide +kernel
  subst hsz
  have hD := hD0.self (sz := st.heap.size)
  generalize hAe : va_A (ws0 ++ [(q0, .inr (0, [.int 0, .int 0, .int 0, .int 0]))]) st.heap.size = A at hD ⊢
  have hA : ∀ q : Nat, st.heap.size ≤ q → A q := fun q h => by rw [← hAe]; exact Or.inr h
  have hS : va_S A st.heap st.heap [] := va_S.rf
  have hl := lv_entry ([.ref q0]) (n := 1) (Nat.le_of_ble_eq_true rfl)
  rw [lg_entry_eq]
  generalize (lg_sl ([.ref q0]) ++ List.replicate (1 - (lg_sl ([.ref q0])).length) Slot.unset).toArray = ls at hl ⊢
  have hl : lv_has ls 1 [(0, .ref q0)] := hl
  refine lv_aload_n hx hb dX0_init_0 rfl (lv_at hl 0 rfl) ?_
  refine W.objInit hx hb hown (hts (.methodLink RX0 1 objectInit) (by decide +kernel)) (hts (.instanceMethod objectInit) (by decide +kernel)) (hts (.code objectInit ⟨#[0xb1]⟩ 1 none) (List.mem_cons_of_mem _ (List.mem_append_left _ (by first | exact List.mem_of_getElem? (i := 2) rfl | exact List.mem_append_left _ (List.mem_of_getElem? (i := 2) rfl))))) rfl (by rw [hml]; exact hl.1) rfl dX0_init_1 (Nat.le_of_ble_eq_true rfl) (Nat.le_of_ble_eq_true rfl) ?_
  refine W.eq (g2 := F0 m 4 ls []) rfl ?_
  refine lv_aload_n hx hb dX0_init_4 rfl (lv_at hl 0 rfl) ?_
  refine lv_iconst (v := nI 0) hx hb dX0_init_5 (by decide) ?_
  refine co_put (v := .int (nI 0)) (ty := .int) (ci := 0) (C := RX0) (T := TX0) (N := 4) hx hb hts inF tyX0 tyX0_ok nmX0 hown hK hP hD hS 0 rfl rfl 0 (by decide) (hts (.fieldLink RX0 7 "TwinWrites$Change" "number" "I") (by decide +kernel)) (fun _ h9 => h9) rfl (by decide +kernel) rfl rfl (Nat.le_of_ble_eq_true rfl) dX0_init_6 (fun H locs hP hD hS => ?_)
  have hP : va_P D vwCl (ws0 ++ [(q0, .inr (0, [.int (nI 0), .int 0, .int 0, .int 0]))]) H := hP
  have hD : va_D A (ws0 ++ [(q0, .inr (0, [.int (nI 0), .int 0, .int 0, .int 0]))]) := hD
  refine lv_aload_n hx hb dX0_init_9 rfl (lv_at hl 0 rfl) ?_
  refine lv_iconst (v := nI 0) hx hb dX0_init_10 (by decide) ?_
  refine co_put (v := .int (nI 0)) (ty := .int) (ci := 0) (C := RX0) (T := TX0) (N := 4) hx hb hts inF tyX0 tyX0_ok nmX0 hown hK hP hD hS 0 rfl rfl 1 (by decide) (hts (.fieldLink RX0 13 "TwinWrites$Change" "page" "I") (by decide +kernel)) (fun _ h9 => h9) rfl (by decide +kernel) rfl rfl (Nat.le_of_ble_eq_true rfl) dX0_init_11 (fun H locs hP hD hS => ?_)
  have hP : va_P D vwCl (ws0 ++ [(q0, .inr (0, [.int (nI 0), .int (nI 0), .int 0, .int 0]))]) H := hP
  have hD : va_D A (ws0 ++ [(q0, .inr (0, [.int (nI 0), .int (nI 0), .int 0, .int 0]))]) := hD
  refine lv_aload_n hx hb dX0_init_14 rfl (lv_at hl 0 rfl) ?_
  refine lv_iconst (v := nI 0) hx hb dX0_init_15 (by decide) ?_
  refine co_put (v := .int (nI 0)) (ty := .int) (ci := 0) (C := RX0) (T := TX0) (N := 4) hx hb hts inF tyX0 tyX0_ok nmX0 hown hK hP hD hS 0 rfl rfl 2 (by decide) (hts (.fieldLink RX0 16 "TwinWrites$Change" "at" "I") (by decide +kernel)) (fun _ h9 => h9) rfl (by decide +kernel) rfl rfl (Nat.le_of_ble_eq_true rfl) dX0_init_16 (fun H locs hP hD hS => ?_)
  have hP : va_P D vwCl (ws0 ++ [(q0, .inr (0, [.int (nI 0), .int (nI 0), .int (nI 0), .int 0]))]) H := hP
  have hD : va_D A (ws0 ++ [(q0, .inr (0, [.int (nI 0), .int (nI 0), .int (nI 0), .int 0]))]) := hD
  refine lv_aload_n hx hb dX0_init_19 rfl (lv_at hl 0 rfl) ?_
  refine lv_iconst (v := nI 0) hx hb dX0_init_20 (by decide) ?_
  refine co_put (v := .int (nI 0)) (ty := .int) (ci := 0) (C := RX0) (T := TX0) (N := 4) hx hb hts inF tyX0 tyX0_ok nmX0 hown hK hP hD hS 0 rfl rfl 3 (by decide) (hts (.fieldLink RX0 19 "TwinWrites$Change" "word" "I") (by decide +kernel)) (fun _ h9 => h9) rfl (by decide +kernel) rfl rfl (Nat.le_of_ble_eq_true rfl) dX0_init_21 (fun H locs hP hD hS => ?_)
  have hP : va_P D vwCl (ws0 ++ [(q0, .inr (0, [.int (nI 0), .int (nI 0), .int (nI 0), .int (nI 0)]))]) H := hP
  have hD : va_D A (ws0 ++ [(q0, .inr (0, [.int (nI 0), .int (nI 0), .int (nI 0), .int (nI 0)]))]) := hD
  exact co_ret hx hb hr hlocks hK (u := ()) hP hD hS  dX0_init_24

set_option maxRecDepth 100000 in
set_option maxHeartbeats 4000000 in
theorem c_X1_init (l : Launch) (D : va_G) (cy : Nat → ClassId) (ws0 : va_W) (q0 : Nat) (sz : Nat) : co_C l yX1_init wsX1_init ({ frames := 1, cells := 1, slots := 16, locals := 12 }) D (me_T cy) [.ref q0] (ws0 ++ [(q0, .inr (1, [.null, .int 0, .int 0, .int 0, .int 0]))]) (fun q1 : Nat => ws0 ++ [(q0, .inr (1, [.ref q1, .int ((-1)), .int (nI 0), .int (nI 0), .int (nI 0)])), (q1, .inl (cy 0, 16, .inl (fun _ => 0)))]) sz 1 16 := by
  refine Met.ofW (cc := cX1_init) (maxL := 1) (ret := none) (by decide) rfl ?_
  intro p e st m args below meth c s₁ B hml hv
  obtain ⟨rfl, hsz, hP, hK, hD0⟩ := hv
  have hx := B.exec
  have hb := B.bytes
  have hr := B.returns
  have hts := atoms_spec (ws := wsX1_init) B.pre
  have hown : st.vm.findClass RX1 = some m.cls := findClass_of_methodNamed B.named
  have hlocks := B.notSynchronized
  have hin : meth.name = "<init>" := (name_of_methodNamed B.named B.method).1
  have inF : ∀ w ∈ u_ws RX1 TX1 5, w ∈ wsX1_init := by decide +kernel
  subst hsz
  have hD := hD0.self (sz := st.heap.size)
  generalize hAe : va_A (ws0 ++ [(q0, .inr (1, [.null, .int 0, .int 0, .int 0, .int 0]))]) st.heap.size = A at hD ⊢
  have hA : ∀ q : Nat, st.heap.size ≤ q → A q := fun q h => by rw [← hAe]; exact Or.inr h
  have hS : va_S A st.heap st.heap [] := va_S.rf
  have hl := lv_entry ([.ref q0]) (n := 1) (Nat.le_of_ble_eq_true rfl)
  rw [lg_entry_eq]
  generalize (lg_sl ([.ref q0]) ++ List.replicate (1 - (lg_sl ([.ref q0])).length) Slot.unset).toArray = ls at hl ⊢
  have hl : lv_has ls 1 [(0, .ref q0)] := hl
  refine lv_aload_n hx hb dX1_init_0 rfl (lv_at hl 0 rfl) ?_
  refine W.objInit hx hb hown (hts (.methodLink RX1 3 objectInit) (by decide +kernel)) (hts (.instanceMethod objectInit) (by decide +kernel)) (hts (.code objectInit ⟨#[0xb1]⟩ 1 none) (List.mem_cons_of_mem _ (List.mem_append_left _ (by first | exact List.mem_of_getElem? (i := 2) rfl | exact List.mem_append_left _ (List.mem_of_getElem? (i := 2) rfl))))) rfl (by rw [hml]; exact hl.1) rfl dX1_init_1 (Nat.le_of_ble_eq_true rfl) (Nat.le_of_ble_eq_true rfl) ?_
  refine W.eq (g2 := F0 m 4 ls []) rfl ?_
  refine lv_aload_n hx hb dX1_init_4 rfl (lv_at hl 0 rfl) ?_
  refine lv_bipush (v := nI 16) hx hb dX1_init_5 (by decide) ?_
  refine co_newa (atype := .int) (c0 := cy 0) (t := 0) (ty := .int) (N' := 16) (a0 := (16, .inl (fun _ => 0))) hx hb (hts (.arrayClass .int) (by decide +kernel)) rfl hK rfl hP hD hS hA (fun _ => rfl) (by decide +kernel) (by decide +kernel) (by decide +kernel) (by decide +kernel) (by decide +kernel) (fun _ => rfl) dX1_init_7 (fun q1 H hP hD hS => ?_)
  have hP : va_P D vwCl (ws0 ++ [(q0, .inr (1, [.null, .int 0, .int 0, .int 0, .int 0])), (q1, .inl (cy 0, 16, .inl (fun _ => 0)))]) H := hP
  have hD : va_D A (ws0 ++ [(q0, .inr (1, [.null, .int 0, .int 0, .int 0, .int 0])), (q1, .inl (cy 0, 16, .inl (fun _ => 0)))]) := hD
  refine W.widen (k := 1) (n := 16) (by omega) (by omega) ?_
  refine co_putF (v := .ref q1) (ty := .array .int) (ci := 1) (C := RX1) (T := TX1) (N := 5) hx hb hts inF tyX1 tyX1_ok nmX1 hown hK hP hD hS 0 rfl rfl 0 (by decide) (hts (.fieldLink RX1 9 "TwinWrites$Frame" "words" "[I") (by decide +kernel)) (fun _ h9 => h9) rfl hin rfl (by decide +kernel) rfl rfl (Nat.le_of_ble_eq_true rfl) dX1_init_9 (fun H locs hP hD hS => ?_)
  have hP : va_P D vwCl (ws0 ++ [(q0, .inr (1, [.ref q1, .int 0, .int 0, .int 0, .int 0])), (q1, .inl (cy 0, 16, .inl (fun _ => 0)))]) H := hP
  have hD : va_D A (ws0 ++ [(q0, .inr (1, [.ref q1, .int 0, .int 0, .int 0, .int 0])), (q1, .inl (cy 0, 16, .inl (fun _ => 0)))]) := hD
  refine lv_aload_n hx hb dX1_init_12 rfl (lv_at hl 0 rfl) ?_
  refine lv_iconst (v := (-1)) hx hb dX1_init_13 (by decide) ?_
  refine co_put (v := .int ((-1))) (ty := .int) (ci := 1) (C := RX1) (T := TX1) (N := 5) hx hb hts inF tyX1 tyX1_ok nmX1 hown hK hP hD hS 0 rfl rfl 1 (by decide) (hts (.fieldLink RX1 15 "TwinWrites$Frame" "page" "I") (by decide +kernel)) (fun _ h9 => h9) rfl (by decide +kernel) rfl rfl (Nat.le_of_ble_eq_true rfl) dX1_init_14 (fun H locs hP hD hS => ?_)
  have hP : va_P D vwCl (ws0 ++ [(q0, .inr (1, [.ref q1, .int ((-1)), .int 0, .int 0, .int 0])), (q1, .inl (cy 0, 16, .inl (fun _ => 0)))]) H := hP
  have hD : va_D A (ws0 ++ [(q0, .inr (1, [.ref q1, .int ((-1)), .int 0, .int 0, .int 0])), (q1, .inl (cy 0, 16, .inl (fun _ => 0)))]) := hD
  refine lv_aload_n hx hb dX1_init_17 rfl (lv_at hl 0 rfl) ?_
  refine lv_iconst (v := nI 0) hx hb dX1_init_18 (by decide) ?_
  refine co_put (v := .int (nI 0)) (ty := .int) (ci := 1) (C := RX1) (T := TX1) (N := 5) hx hb hts inF tyX1 tyX1_ok nmX1 hown hK hP hD hS 0 rfl rfl 2 (by decide) (hts (.fieldLink RX1 19 "TwinWrites$Frame" "stamp" "I") (by decide +kernel)) (fun _ h9 => h9) rfl (by decide +kernel) rfl rfl (Nat.le_of_ble_eq_true rfl) dX1_init_19 (fun H locs hP hD hS => ?_)
  have hP : va_P D vwCl (ws0 ++ [(q0, .inr (1, [.ref q1, .int ((-1)), .int (nI 0), .int 0, .int 0])), (q1, .inl (cy 0, 16, .inl (fun _ => 0)))]) H := hP
  have hD : va_D A (ws0 ++ [(q0, .inr (1, [.ref q1, .int ((-1)), .int (nI 0), .int 0, .int 0])), (q1, .inl (cy 0, 16, .inl (fun _ => 0)))]) := hD
  refine lv_aload_n hx hb dX1_init_22 rfl (lv_at hl 0 rfl) ?_
  refine lv_iconst (v := nI 0) hx hb dX1_init_23 (by decide) ?_
  refine co_put (v := .int (nI 0)) (ty := .boolean) (ci := 1) (C := RX1) (T := TX1) (N := 5) hx hb hts inF tyX1 tyX1_ok nmX1 hown hK hP hD hS 0 rfl rfl 3 (by decide) (hts (.fieldLink RX1 22 "TwinWrites$Frame" "dirty" "Z") (by decide +kernel)) (fun _ h9 => h9) rfl (by decide +kernel) rfl rfl (Nat.le_of_ble_eq_true rfl) dX1_init_24 (fun H locs hP hD hS => ?_)
  have hP : va_P D vwCl (ws0 ++ [(q0, .inr (1, [.ref q1, .int ((-1)), .int (nI 0), .int (nI 0), .int 0])), (q1, .inl (cy 0, 16, .inl (fun _ => 0)))]) H := hP
  have hD : va_D A (ws0 ++ [(q0, .inr (1, [.ref q1, .int ((-1)), .int (nI 0), .int (nI 0), .int 0])), (q1, .inl (cy 0, 16, .inl (fun _ => 0)))]) := hD
  refine lv_aload_n hx hb dX1_init_27 rfl (lv_at hl 0 rfl) ?_
  refine lv_iconst (v := nI 0) hx hb dX1_init_28 (by decide) ?_
  refine co_put (v := .int (nI 0)) (ty := .int) (ci := 1) (C := RX1) (T := TX1) (N := 5) hx hb hts inF tyX1 tyX1_ok nmX1 hown hK hP hD hS 0 rfl rfl 4 (by decide) (hts (.fieldLink RX1 26 "TwinWrites$Frame" "asked" "I") (by decide +kernel)) (fun _ h9 => h9) rfl (by decide +kernel) rfl rfl (Nat.le_of_ble_eq_true rfl) dX1_init_29 (fun H locs hP hD hS => ?_)
  have hP : va_P D vwCl (ws0 ++ [(q0, .inr (1, [.ref q1, .int ((-1)), .int (nI 0), .int (nI 0), .int (nI 0)])), (q1, .inl (cy 0, 16, .inl (fun _ => 0)))]) H := hP
  have hD : va_D A (ws0 ++ [(q0, .inr (1, [.ref q1, .int ((-1)), .int (nI 0), .int (nI 0), .int (nI 0)])), (q1, .inl (cy 0, 16, .inl (fun _ => 0)))]) := hD
  exact co_ret hx hb hr hlocks hK (u := q1) hP hD hS  dX1_init_32

set_option maxRecDepth 100000 in
set_option maxHeartbeats 4000000 in
theorem c_X2_init (l : Launch) (D : va_G) (cy : Nat → ClassId) (ws0 : va_W) (q0 : Nat) (x : Int32) (sz : Nat) : co_C l yX2_init wsX2_init ({ frames := 1, cells := 3, slots := 24, locals := 12 }) D (me_T cy) [.ref q0, .int x] (ws0 ++ [(q0, .inr (2, [.null, .null, .null]))]) (fun u : Nat × Nat × Nat => ws0 ++ [(q0, .inr (2, [.ref u.1, .ref u.2.1, .ref u.2.2])), (u.1, .inl (cy 0, 16, .inl (fun _ => 0))), (u.2.1, .inl (cy 0, 4, .inl (fun _ => 0))), (u.2.2, .inl (cy 0, 4, .inl (co_fl 4 x)))]) sz 3 24 := by
  refine Met.ofW (cc := cX2_init) (maxL := 3) (ret := none) (by decide) rfl ?_
  intro p e st m args below meth c s₁ B hml hv
  obtain ⟨rfl, hsz, hP, hK, hD0⟩ := hv
  have hx := B.exec
  have hb := B.bytes
  have hr := B.returns
  have hts := atoms_spec (ws := wsX2_init) B.pre
  have hown : st.vm.findClass RX2 = some m.cls := findClass_of_methodNamed B.named
  have hlocks := B.notSynchronized
  have hin : meth.name = "<init>" := (name_of_methodNamed B.named B.method).1
  have inF : ∀ w ∈ u_ws RX2 TX2 3, w ∈ wsX2_init := by decide +kernel
  subst hsz
  have hD := hD0.self (sz := st.heap.size)
  generalize hAe : va_A (ws0 ++ [(q0, .inr (2, [.null, .null, .null]))]) st.heap.size = A at hD ⊢
  have hA : ∀ q : Nat, st.heap.size ≤ q → A q := fun q h => by rw [← hAe]; exact Or.inr h
  have hS : va_S A st.heap st.heap [] := va_S.rf
  have hl := lv_entry ([.ref q0, .int x]) (n := 3) (Nat.le_of_ble_eq_true rfl)
  rw [lg_entry_eq]
  generalize (lg_sl ([.ref q0, .int x]) ++ List.replicate (3 - (lg_sl ([.ref q0, .int x])).length) Slot.unset).toArray = ls at hl ⊢
  have hl : lv_has ls 3 [(0, .ref q0), (1, .int x)] := hl
  refine lv_aload_n hx hb dX2_init_0 rfl (lv_at hl 0 rfl) ?_
  refine W.objInit hx hb hown (hts (.methodLink RX2 3 objectInit) (by decide +kernel)) (hts (.instanceMethod objectInit) (by decide +kernel)) (hts (.code objectInit ⟨#[0xb1]⟩ 1 none) (List.mem_cons_of_mem _ (List.mem_append_left _ (by first | exact List.mem_of_getElem? (i := 2) rfl | exact List.mem_append_left _ (List.mem_of_getElem? (i := 2) rfl))))) rfl (by rw [hml]; exact hl.1) rfl dX2_init_1 (Nat.le_of_ble_eq_true rfl) (Nat.le_of_ble_eq_true rfl) ?_
  refine W.eq (g2 := F0 m 4 ls []) rfl ?_
  refine lv_aload_n hx hb dX2_init_4 rfl (lv_at hl 0 rfl) ?_
  refine lv_bipush (v := nI 16) hx hb dX2_init_5 (by decide) ?_
  refine co_newa (atype := .int) (c0 := cy 0) (t := 0) (ty := .int) (N' := 16) (a0 := (16, .inl (fun _ => 0))) hx hb (hts (.arrayClass .int) (by decide +kernel)) rfl hK rfl hP hD hS hA (fun _ => rfl) (by decide +kernel) (by decide +kernel) (by decide +kernel) (by decide +kernel) (by decide +kernel) (fun _ => rfl) dX2_init_7 (fun q1 H hP hD hS => ?_)
  have hP : va_P D vwCl (ws0 ++ [(q0, .inr (2, [.null, .null, .null])), (q1, .inl (cy 0, 16, .inl (fun _ => 0)))]) H := hP
  have hD : va_D A (ws0 ++ [(q0, .inr (2, [.null, .null, .null])), (q1, .inl (cy 0, 16, .inl (fun _ => 0)))]) := hD
  refine W.widen (k := 1) (n := 16) (by omega) (by omega) ?_
  refine co_putF (v := .ref q1) (ty := .array .int) (ci := 2) (C := RX2) (T := TX2) (N := 3) hx hb hts inF tyX2 tyX2_ok nmX2 hown hK hP hD hS 0 rfl rfl 0 (by decide) (hts (.fieldLink RX2 9 "TwinWrites$Place" "words" "[I") (by decide +kernel)) (fun _ h9 => h9) rfl hin rfl (by decide +kernel) rfl rfl (Nat.le_of_ble_eq_true rfl) dX2_init_9 (fun H locs hP hD hS => ?_)
  have hP : va_P D vwCl (ws0 ++ [(q0, .inr (2, [.ref q1, .null, .null])), (q1, .inl (cy 0, 16, .inl (fun _ => 0)))]) H := hP
  have hD : va_D A (ws0 ++ [(q0, .inr (2, [.ref q1, .null, .null])), (q1, .inl (cy 0, 16, .inl (fun _ => 0)))]) := hD
  refine lv_aload_n hx hb dX2_init_12 rfl (lv_at hl 0 rfl) ?_
  refine lv_iconst (v := nI 4) hx hb dX2_init_13 (by decide) ?_
  refine co_newa (atype := .int) (c0 := cy 0) (t := 0) (ty := .int) (N' := 4) (a0 := (4, .inl (fun _ => 0))) hx hb (hts (.arrayClass .int) (by decide +kernel)) rfl hK rfl hP hD hS hA (fun _ => rfl) (by decide +kernel) (by decide +kernel) (by decide +kernel) (by decide +kernel) (by decide +kernel) (fun _ => rfl) dX2_init_14 (fun q2 H hP hD hS => ?_)
  have hP : va_P D vwCl (ws0 ++ [(q0, .inr (2, [.ref q1, .null, .null])), (q1, .inl (cy 0, 16, .inl (fun _ => 0))), (q2, .inl (cy 0, 4, .inl (fun _ => 0)))]) H := hP
  have hD : va_D A (ws0 ++ [(q0, .inr (2, [.ref q1, .null, .null])), (q1, .inl (cy 0, 16, .inl (fun _ => 0))), (q2, .inl (cy 0, 4, .inl (fun _ => 0)))]) := hD
  refine W.widen (k := 2) (n := 20) (by omega) (by omega) ?_
  refine co_putF (v := .ref q2) (ty := .array .int) (ci := 2) (C := RX2) (T := TX2) (N := 3) hx hb hts inF tyX2 tyX2_ok nmX2 hown hK hP hD hS 0 rfl rfl 1 (by decide) (hts (.fieldLink RX2 15 "TwinWrites$Place" "stamps" "[I") (by decide +kernel)) (fun _ h9 => h9) rfl hin rfl (by decide +kernel) rfl rfl (Nat.le_of_ble_eq_true rfl) dX2_init_16 (fun H locs hP hD hS => ?_)
  have hP : va_P D vwCl (ws0 ++ [(q0, .inr (2, [.ref q1, .ref q2, .null])), (q1, .inl (cy 0, 16, .inl (fun _ => 0))), (q2, .inl (cy 0, 4, .inl (fun _ => 0)))]) H := hP
  have hD : va_D A (ws0 ++ [(q0, .inr (2, [.ref q1, .ref q2, .null])), (q1, .inl (cy 0, 16, .inl (fun _ => 0))), (q2, .inl (cy 0, 4, .inl (fun _ => 0)))]) := hD
  refine lv_aload_n hx hb dX2_init_19 rfl (lv_at hl 0 rfl) ?_
  refine lv_iconst (v := nI 4) hx hb dX2_init_20 (by decide) ?_
  refine co_newa (atype := .int) (c0 := cy 0) (t := 0) (ty := .int) (N' := 4) (a0 := (4, .inl (fun _ => 0))) hx hb (hts (.arrayClass .int) (by decide +kernel)) rfl hK rfl hP hD hS hA (fun _ => rfl) (by decide +kernel) (by decide +kernel) (by decide +kernel) (by decide +kernel) (by decide +kernel) (fun _ => rfl) dX2_init_21 (fun q3 H hP hD hS => ?_)
  have hP : va_P D vwCl (ws0 ++ [(q0, .inr (2, [.ref q1, .ref q2, .null])), (q1, .inl (cy 0, 16, .inl (fun _ => 0))), (q2, .inl (cy 0, 4, .inl (fun _ => 0))), (q3, .inl (cy 0, 4, .inl (fun _ => 0)))]) H := hP
  have hD : va_D A (ws0 ++ [(q0, .inr (2, [.ref q1, .ref q2, .null])), (q1, .inl (cy 0, 16, .inl (fun _ => 0))), (q2, .inl (cy 0, 4, .inl (fun _ => 0))), (q3, .inl (cy 0, 4, .inl (fun _ => 0)))]) := hD
  refine W.widen (k := 3) (n := 24) (by omega) (by omega) ?_
  refine co_putF (v := .ref q3) (ty := .array .int) (ci := 2) (C := RX2) (T := TX2) (N := 3) hx hb hts inF tyX2 tyX2_ok nmX2 hown hK hP hD hS 0 rfl rfl 2 (by decide) (hts (.fieldLink RX2 18 "TwinWrites$Place" "pages" "[I") (by decide +kernel)) (fun _ h9 => h9) rfl hin rfl (by decide +kernel) rfl rfl (Nat.le_of_ble_eq_true rfl) dX2_init_23 (fun H locs hP hD hS => ?_)
  have hP : va_P D vwCl (ws0 ++ [(q0, .inr (2, [.ref q1, .ref q2, .ref q3])), (q1, .inl (cy 0, 16, .inl (fun _ => 0))), (q2, .inl (cy 0, 4, .inl (fun _ => 0))), (q3, .inl (cy 0, 4, .inl (fun _ => 0)))]) H := hP
  have hD : va_D A (ws0 ++ [(q0, .inr (2, [.ref q1, .ref q2, .ref q3])), (q1, .inl (cy 0, 16, .inl (fun _ => 0))), (q2, .inl (cy 0, 4, .inl (fun _ => 0))), (q3, .inl (cy 0, 4, .inl (fun _ => 0)))]) := hD
  refine lv_iconst (v := nI 0) hx hb dX2_init_26 (by decide) ?_
  refine lv_istore_n (lv' := [(2, .int (nI 0)), (0, .ref q0), (1, .int x)]) hx hb dX2_init_27 rfl hl (by decide) rfl (fun ls hl => ?_)
  rw [← co_fl_0 x] at hP hD
  have J : ∀ (n i : Nat) (H : Heap) (locs : List Loc) (hP : va_P D vwCl (ws0 ++ [(q0, .inr (2, [.ref q1, .ref q2, .ref q3])), (q1, .inl (cy 0, 16, .inl (fun _ => 0))), (q2, .inl (cy 0, 4, .inl (fun _ => 0))), (q3, .inl (cy 0, 4, .inl (co_fl i x)))]) H) (hD : va_D A (ws0 ++ [(q0, .inr (2, [.ref q1, .ref q2, .ref q3])), (q1, .inl (cy 0, 16, .inl (fun _ => 0))), (q2, .inl (cy 0, 4, .inl (fun _ => 0))), (q3, .inl (cy 0, 4, .inl (co_fl i x)))])) (hS : va_S A st.heap H locs) (ls : Array Slot) (hl : lv_has ls 3 [(2, .int (nI i)), (0, .ref q0), (1, .int x)]), i ≤ 4 → 5 ≤ i + n → W p l e (headSpec wsX2_init ({ frames := 1, cells := 3, slots := 24, locals := 12 })).room st m ([.ref q0, .int x] : List Value).toArray below meth c H locs 3 24 (MQ below (va_Qv (fun _ => True) (fun u t => va_P D vwCl ((fun u : Nat × Nat × Nat => ws0 ++ [(q0, .inr (2, [.ref u.1, .ref u.2.1, .ref u.2.2])), (u.1, .inl (cy 0, 16, .inl (fun _ => 0))), (u.2.1, .inl (cy 0, 4, .inl (fun _ => 0))), (u.2.2, .inl (cy 0, 4, .inl (co_fl 4 x)))]) u) t.heap ∧ va_K D vwCl (me_T cy) t ∧ va_D A ((fun u : Nat × Nat × Nat => ws0 ++ [(q0, .inr (2, [.ref u.1, .ref u.2.1, .ref u.2.2])), (u.1, .inl (cy 0, 16, .inl (fun _ => 0))), (u.2.1, .inl (cy 0, 4, .inl (fun _ => 0))), (u.2.2, .inl (cy 0, 4, .inl (co_fl 4 x)))]) u)) A) ([.ref q0, .int x] : List Value).toArray st 3 24 A) (F0 m 28 ls []) := by
    intro n
    induction n with
    | zero => intro i H locs hP hD hS ls hl hi hn; exfalso; omega
    | succ n ih =>
      intro i H locs hP hD hS ls hl hi hn
      refine lv_iload_n hx hb dX2_init_28 rfl (lv_at hl 0 rfl) ?_
      refine lv_iconst (v := nI 4) hx hb dX2_init_29 (by decide) ?_
      refine lv_icmp_ge (tgt := 46) hx hb dX2_init_30 (by decide) (fun c5 => ?_) (fun c5 => ?_)
      · have h5 := (nI_leI (by omega) (by omega)).mp c5
        obtain rfl : i = 4 := by omega
        exact co_ret hx hb hr hlocks hK (u := (q1, q2, q3)) hP hD hS dX2_init_46
      · have h5 := (not_congr (nI_leI (by omega) (by omega))).mp c5
        refine lv_aload_n hx hb dX2_init_33 rfl (lv_at hl 1 rfl) ?_
        refine va_get (D := D) (ci := 2) (v := .ref q3) (C := RX2) (T := TX2) (N := 3) hx hb hts inF hown hK hP ws0.length (co_get (k := 0) rfl) rfl 2 (by decide) (hts (.fieldLink RX2 18 "TwinWrites$Place" "pages" "[I") (by decide +kernel)) (fun _ h9 => h9) rfl dX2_init_34 ?_
        refine lv_iload_n hx hb dX2_init_37 rfl (lv_at hl 0 rfl) ?_
        refine lv_iload_n hx hb dX2_init_38 rfl (lv_at hl 2 rfl) ?_
        refine co_iast hx hb hK hP hD hS 3 0 rfl rfl i rfl (by omega) (by decide) dX2_init_39 (fun H locs hP hD hS => ?_)
        rw [co_fl_s] at hP hD
        refine lv_iinc (v := nI (i + 1)) (lv' := [(2, .int (nI (i + 1))), (0, .ref q0), (1, .int x)]) hx hb dX2_init_40 hl (k := 0) rfl (me_inc _) (by decide) rfl (fun ls hl => ?_)
        refine lv_goto (tgt := 28) hx hb dX2_init_43 (by decide) ?_
        exact ih (i + 1) _ _ hP hD hS ls (lv_sub hl [0, 1, 2] rfl) (by omega) (by omega)
  exact J 5 0 _ _ hP hD hS ls hl (by omega) (by omega)

