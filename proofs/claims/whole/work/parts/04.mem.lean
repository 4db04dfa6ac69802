/-! MEMORY BLOCKS: a world of n cells at the addresses ad i, each with the ints σ i; references in it never change -/
abbrev me_M : Type := Nat → Nat → Int32
def me_st (σ : me_M) (i k : Nat) (x : Int32) : me_M := va_up σ i (upd (σ i) k x)
theorem me_st_eq (σ : me_M) (i k : Nat) (x : Int32) (a b : Nat) : me_st σ i k x a b = if a = i ∧ b = k then x else σ a b := by
  unfold me_st va_up upd
  by_cases h : a = i
  · subst h
    by_cases h2 : b = k <;> simp [h2]
  · simp [h]
theorem me_st_self (σ : me_M) (i k : Nat) (x : Int32) : me_st σ i k x i k = x := by simp [me_st_eq]
theorem me_st_c (σ : me_M) {i a : Nat} (k : Nat) (x : Int32) (h : a ≠ i) : me_st σ i k x a = σ a := by
  funext b
  simp [me_st_eq, h]
theorem me_st_s (σ : me_M) (i : Nat) {k b : Nat} (x : Int32) (h : b ≠ k) : me_st σ i k x i b = σ i b := by simp [me_st_eq, h]
theorem me_st_i (σ : me_M) (i k : Nat) (x : Int32) : me_st σ i k x i = upd (σ i) k x := by simp [me_st, va_up]
def me_w (E : Nat → (Nat → Int32) → va_E) (ad : Nat → Nat) (n : Nat) (rest : va_W) (σ : me_M) : va_W := (List.range n).map (fun i => (ad i, E i (σ i))) ++ rest
theorem me_get {E : Nat → (Nat → Int32) → va_E} {ad : Nat → Nat} {n : Nat} {rest : va_W} {σ : me_M} {i : Nat} {e : va_E} (h : i < n) (he : E i (σ i) = e) : (me_w E ad n rest σ)[i]? = some (ad i, e) := by
  unfold me_w
  rw [List.getElem?_append_left (by simp; exact h)]
  simp [h, he]
theorem me_up {E : Nat → (Nat → Int32) → va_E} {ad : Nat → Nat} {n : Nat} {rest : va_W} {σ : me_M} {i : Nat} {f : Nat → Int32} {e : va_E} (h : i < n) (he : E i f = e) : (me_w E ad n rest σ).set i (ad i, e) = me_w E ad n rest (va_up σ i f) := by
  unfold me_w
  rw [List.set_append_left _ _ (by simp; exact h)]
  congr 1
  apply List.ext_getElem?
  intro j
  by_cases hj : j = i
  · subst hj
    rw [List.getElem?_set_self (by simp; exact h)]
    simp [h, va_up, he]
  · rw [List.getElem?_set_ne (Ne.symm hj)]
    by_cases hl : j < n
    · simp [hl, va_up, hj]
    · simp [hl]
def me_T (cy : Nat → ClassId) : List (ClassId × FieldType) := [(cy 0, .int), (cy 1, .boolean), (cy 2, .long), (cy 3, .object "TwinWrites$Place"), (cy 4, .object "TwinWrites$Change"), (cy 5, .object "TwinWrites$Frame")]
def me_P (D : va_G) (tys : List (ClassId × FieldType)) (w : va_W) (sz : Nat) : State → Prop := fun U => U.heap.size = sz ∧ va_P D vwCl w U.heap ∧ va_K D vwCl tys U ∧ va_D (fun _ => True) w
def me_B (D : va_G) (tys : List (ClassId × FieldType)) (A : Nat → Prop) (w : me_M → va_W) : me_M → State → Prop := fun σ t => va_P D vwCl (w σ) t.heap ∧ va_K D vwCl tys t ∧ va_D A (w σ)
/-- a method that answers an int (or a boolean): from the memory σ on it answers f.1 and leaves f.2 -/
def me_Ci (l : Launch) (y : MethodName) (ws : List Cond) (rm : Room) (D : va_G) (tys : List (ClassId × FieldType)) (w : me_M → va_W) (av : List Value) (sz : Nat) (σ : me_M) (f : Int32 × me_M) : Prop :=
  Met l y ws rm (va_Pc av (me_P D tys (w σ) sz)) (va_Qi (fun r σ' => (r, σ') = f) (me_B D tys (va_A (w σ) sz) w) (va_A (w σ) sz)) 0 0 (va_A (w σ) sz)
def me_Cv (l : Launch) (y : MethodName) (ws : List Cond) (rm : Room) (D : va_G) (tys : List (ClassId × FieldType)) (w : me_M → va_W) (av : List Value) (sz : Nat) (σ : me_M) (f : me_M) : Prop :=
  Met l y ws rm (va_Pc av (me_P D tys (w σ) sz)) (va_Qv (fun σ' => σ' = f) (me_B D tys (va_A (w σ) sz) w) (va_A (w σ) sz)) 0 0 (va_A (w σ) sz)
theorem me_blind {D : va_G} {tys : List (ClassId × FieldType)} {w : va_W} {sz : Nat} {av : List Value} : FrameBlind (va_Pc av (me_P D tys w sz)) := fun a U g mk q => by
  obtain ⟨q0, q1, qP, qK, qD⟩ := q
  exact ⟨q0, q1, qP, va_K.moved (u := U) (U := U.calling g mk a) (Vm.Alike.refl U.vm) qK, qD⟩
theorem me_pre {D : va_G} {tys : List (ClassId × FieldType)} {w : va_W} {av : List Value} {A : Nat → Prop} {s : State} {H : Heap} (hK : va_K D vwCl tys s) (hP : va_P D vwCl w H) (hD : va_D A w) : ∀ U : State, U.heap = H → s.WarmedH U.vm → va_Pc av (me_P D tys w H.size) av.toArray U :=
  fun U hU hW => ⟨rfl, by rw [hU], by rw [hU]; exact hP, va_K.moved hW.alike hK, hD.weaken (fun _ _ _ _ => trivial)⟩
theorem me_free {A : Nat → Prop} {w : va_W} {H0 H : Heap} {locs : List Loc} (hD : va_D A w) (hS : va_S A H0 H locs) (hA : ∀ q, H0.size ≤ q → A q) : ∀ q, va_A w H.size q → A q := by
  intro q h
  rcases h with ⟨k, e, h⟩ | h
  · exact hD.2 k (q, e) h
  · exact hA q (Nat.le_trans hS.1 h)
section MEA
variable {p : Program} {l : Launch} {e : Env} {R : Room} {s : State} {m : MethodId} {args : Array Value} {below : List Frame} {meth : Method} {c : Code} {H : Heap} {locs : List Loc} {cells slots : Nat} {Q : State → Prop}
variable {cc : ByteArray} {pc : Nat} {ls : Array Slot} {rest st : List Value} {D : va_G} {A : Nat → Prop} {b : Nat} {tys : List (ClassId × FieldType)} {E : Nat → (Nat → Int32) → va_E} {ad : Nat → Nat} {N : Nat} {xr : va_W} {σ : me_M} {w : me_M → va_W}
variable {y : MethodName} {bytes : ByteArray} {maxL nL n index : Nat} {ret : Option FieldType} {ws : List Cond} {rm : Room} {Ts : List Cond} {own C : String} {As : List Value}
/-- the top of the stack under another name -/
theorem me_top {x z : Int32} (h : x = z) (k : W p l e R s m args below meth c H locs cells slots Q (F0 m pc ls (.int z :: rest))) : W p l e R s m args below meth c H locs cells slots Q (F0 m pc ls (.int x :: rest)) := by rw [h]; exact k
theorem me_topr {x z : Value} (h : x = z) (k : W p l e R s m args below meth c H locs cells slots Q (F0 m pc ls (z :: rest))) : W p l e R s m args below meth c H locs cells slots Q (F0 m pc ls (x :: rest)) := by rw [h]; exact k
theorem me_put (hexec : p.tables.exec = Jvm.exec) (hb : c.code = cc) {ref : String} {T : u_T} {M ci : Nat} (hts : ∀ w ∈ Ts, w.before args s = true) (hin : ∀ w ∈ u_ws C T M, w ∈ Ts) (ty0 : Nat → FieldType) (hty : ∀ k, k < M → parseFieldDescriptor (T k).2.2.1 = some (ty0 k)) (hnm : ∀ a, a < M → ∀ b, b < M → a ≠ b → (T a).2.1 ≠ (T b).2.1) (hown : s.vm.findClass own = some m.cls) (hK : va_K D vwCl tys s) (hP : va_P D vwCl (me_w E ad N xr σ) H) (hD : va_D A (me_w E ad N xr σ)) (hS : va_S A s.heap H locs) (i : Nat) (hi : i < N) {fs : List Value} (he : E i (σ i) = .inr (ci, fs)) (hc : vwCl[ci]? = some (C, T, M)) (k : Nat) (hk : k < M) (hlink : (Cond.fieldLink own index ref (T k).2.1 (T k).2.2.1).before args s = true) (hsame : ∀ x, s.fieldFound? (T k).1 (T k).2.1 (T k).2.2.1 = some x → s.fieldFound? ref (T k).2.1 (T k).2.2.1 = some x) (hfin : (T k).2.2.2 = false) {ty : FieldType} {x : Int32} (hd : parseFieldDescriptor (T k).2.2.1 = some ty) (hn : narrow ty (.int x) = .int x) (hfit : fits ty (.int x) = true) (hl : k < fs.length) (he2 : E i (upd (σ i) k x) = .inr (ci, fs.set k (.int x)))
    (hdg : decode cc pc = .ok (.putfield index, 3)) (kk : ∀ (σ1 : me_M) (H1 : Heap) (locs1 : List Loc), me_st σ i k x = σ1 → va_P D vwCl (me_w E ad N xr σ1) H1 → va_D A (me_w E ad N xr σ1) → va_S A s.heap H1 locs1 → W p l e R s m args below meth c H1 locs1 cells slots Q (F0 m (pc + 3) ls rest)) : W p l e R s m args below meth c H locs cells slots Q (F0 m pc ls (.int x :: .ref (ad i) :: rest)) := by
  refine va_put hexec hb hts hin ty0 hty hnm hown hK hP hD hS i (me_get hi he) hc k hk hlink hsame hfin hd hn hfit hl hdg (fun H1 locs1 h1 h2 h3 => ?_)
  rw [me_up hi he2] at h1 h2
  exact kk _ H1 locs1 rfl h1 h2 h3
theorem me_iast (hexec : p.tables.exec = Jvm.exec) (hb : c.code = cc) (hK : va_K D vwCl tys s) (hP : va_P D vwCl (me_w E ad N xr σ) H) (hD : va_D A (me_w E ad N xr σ)) (hS : va_S A s.heap H locs) (i t0 : Nat) (hi : i < N) {cA : ClassId} {z : Nat} (he : ∀ f, E i f = .inl (cA, z, .inl f)) (ht : tys[t0]? = some (cA, .int)) {j x : Int32} (k : Nat) (hj : j = nI k) (hk : k < z) (hz : z < 2 ^ 31) (hdg : decode cc pc = .ok (.iastore, 1))
    (kk : ∀ (σ1 : me_M) (H1 : Heap) (locs1 : List Loc), me_st σ i k x = σ1 → va_P D vwCl (me_w E ad N xr σ1) H1 → va_D A (me_w E ad N xr σ1) → va_S A s.heap H1 locs1 → W p l e R s m args below meth c H1 locs1 cells slots Q (F0 m (pc + 1) ls rest)) : W p l e R s m args below meth c H locs cells slots Q (F0 m pc ls (.int x :: .int j :: .ref (ad i) :: rest)) := by
  subst hj
  refine va_iast hexec hb hK hP hD hS i t0 (me_get hi (he _)) ht (vp_in_nI hk hz) hdg (fun H1 locs1 h1 h2 h3 => ?_)
  rw [nI_clamp (Nat.lt_trans hk hz), me_up hi (he _)] at h1 h2
  exact kk _ H1 locs1 rfl h1 h2 h3
theorem me_zast (hexec : p.tables.exec = Jvm.exec) (hb : c.code = cc) (hK : va_K D vwCl tys s) (hP : va_P D vwCl (me_w E ad N xr σ) H) (hD : va_D A (me_w E ad N xr σ)) (hS : va_S A s.heap H locs) (i t0 : Nat) (hi : i < N) {cA : ClassId} {z : Nat} (he : ∀ f, E i f = .inl (cA, z, .inl f)) (ht : tys[t0]? = some (cA, .boolean)) {j x : Int32} (k : Nat) (hj : j = nI k) (hk : k < z) (hz : z < 2 ^ 31) (hx : vp_nar .boolean x = x) (hdg : decode cc pc = .ok (.bastore, 1))
    (kk : ∀ (σ1 : me_M) (H1 : Heap) (locs1 : List Loc), me_st σ i k x = σ1 → va_P D vwCl (me_w E ad N xr σ1) H1 → va_D A (me_w E ad N xr σ1) → va_S A s.heap H1 locs1 → W p l e R s m args below meth c H1 locs1 cells slots Q (F0 m (pc + 1) ls rest)) : W p l e R s m args below meth c H locs cells slots Q (F0 m pc ls (.int x :: .int j :: .ref (ad i) :: rest)) := by
  subst hj
  refine va_zast hexec hb hK hP hD hS i t0 (me_get hi (he _)) ht (vp_in_nI hk hz) hdg (fun H1 locs1 h1 h2 h3 => ?_)
  rw [nI_clamp (Nat.lt_trans hk hz), hx, me_up hi (he _)] at h1 h2
  exact kk _ H1 locs1 rfl h1 h2 h3
theorem me_iald (hexec : p.tables.exec = Jvm.exec) (hb : c.code = cc) (hK : va_K D vwCl tys s) (hP : va_P D vwCl (me_w E ad N xr σ) H) (i t0 : Nat) (hi : i < N) {cA : ClassId} {z : Nat} (he : ∀ f, E i f = .inl (cA, z, .inl f)) (ht : tys[t0]? = some (cA, .int)) {j : Int32} (k : Nat) (hj : j = nI k) (hk : k < z) (hz : z < 2 ^ 31) (hdg : decode cc pc = .ok (.iaload, 1))
    (kk : W p l e R s m args below meth c H locs cells slots Q (F0 m (pc + 1) ls (.int (σ i k) :: rest))) : W p l e R s m args below meth c H locs cells slots Q (F0 m pc ls (.int j :: .ref (ad i) :: rest)) := by
  subst hj
  refine va_iald hexec hb hK hP i t0 (me_get hi (he _)) ht (vp_in_nI hk hz) hdg ?_
  rw [nI_clamp (Nat.lt_trans hk hz)]
  exact kk
theorem me_zald (hexec : p.tables.exec = Jvm.exec) (hb : c.code = cc) (hK : va_K D vwCl tys s) (hP : va_P D vwCl (me_w E ad N xr σ) H) (i t0 : Nat) (hi : i < N) {cA : ClassId} {z : Nat} (he : ∀ f, E i f = .inl (cA, z, .inl f)) (ht : tys[t0]? = some (cA, .boolean)) {j : Int32} (k : Nat) (hj : j = nI k) (hk : k < z) (hz : z < 2 ^ 31) (hdg : decode cc pc = .ok (.baload, 1))
    (kk : W p l e R s m args below meth c H locs cells slots Q (F0 m (pc + 1) ls (.int (σ i k) :: rest))) : W p l e R s m args below meth c H locs cells slots Q (F0 m pc ls (.int j :: .ref (ad i) :: rest)) := by
  subst hj
  refine va_zald hexec hb hK hP i t0 (me_get hi (he _)) ht (vp_in_nI hk hz) hdg ?_
  rw [nI_clamp (Nat.lt_trans hk hz)]
  exact kk
/-- a place of an array of references that never change -/
theorem me_aald (hexec : p.tables.exec = Jvm.exec) (hb : c.code = cc) (hK : va_K D vwCl tys s) (hP : va_P D vwCl (me_w E ad N xr σ) H) (i t0 : Nat) (hi : i < N) {cA : ClassId} {C : String} {z : Nat} {g : Nat → Nat} (he : ∀ f, E i f = .inl (cA, z, .inr (.inr (.inr (.inr (fun j => some (g j))))))) (ht : tys[t0]? = some (cA, .object C)) {j : Int32} (k : Nat) (hj : j = nI k) (hk : k < z) (hz : z < 2 ^ 31) (hdg : decode cc pc = .ok (.aaload, 1))
    (kk : W p l e R s m args below meth c H locs cells slots Q (F0 m (pc + 1) ls (.ref (g k) :: rest))) : W p l e R s m args below meth c H locs cells slots Q (F0 m pc ls (.int j :: .ref (ad i) :: rest)) := by
  subst hj
  refine va_aldq hexec hb hK hP i t0 (me_get hi (he _)) ht (vp_in_nI hk hz) hdg ?_
  rw [nI_clamp (Nat.lt_trans hk hz)]
  exact kk
/-- a call of a method of an object of the world: int or boolean, or nothing -/
theorem me_calli {f : Int32 × me_M} (S : CallFix p m c cc nL s args Ts own) (hM : ∀ sz, me_Ci l y ws rm D tys w (.ref b :: As) sz σ f) (cw : CallW R s args own C index y bytes maxL ret ws rm 0 0 n)
    (hrec : ∃ cell : Cell, H[b]? = some cell ∧ cell.vm.isStatics = false ∧ s.vm.findClass C = some cell.cls) (hK : va_K D vwCl tys s) (hP : va_P D vwCl (w σ) H) (hD : va_D A (w σ)) (hS : va_S A s.heap H locs) (hA : ∀ q, s.heap.size ≤ q → A q)
    (hn : As.length = n) (hsize : ls.size = nL) (hst : st = As.reverse ++ .ref b :: rest) (hW : (rest.map fun v => v.category).sum ≤ 8) (hdg : decode cc pc = .ok (.invokevirtual index, 3)) (hf : cells ≤ R.cells ∧ slots ≤ R.slots)
    (kk : ∀ (r : Int32) (σ1 : me_M) (H1 : Heap) (locs1 : List Loc), f = (r, σ1) → va_P D vwCl (w σ1) H1 → va_D A (w σ1) → va_S A s.heap H1 locs1 → W p l e R s m args below meth c H1 locs1 cells slots Q (F0 m (pc + 3) ls (.int r :: rest))) : W p l e R s m args below meth c H locs cells slots Q (F0 m pc ls st) := by
  have hF := me_free hD hS hA
  refine va_calli (va_runV (As := As) (rest := rest) S (hM H.size) cw ⟨me_blind, hrec, me_pre hK hP hD⟩ rfl hn hsize hst (by simpa using hW) hdg hf) hS (fun q _ h => hF q h) hF (fun r u t H1 locs1 ht hvm hw hB hz1 hk1 hS1 => ?_)
  obtain ⟨hP1, hK1, hD1⟩ := hB
  rw [ht] at hP1
  exact kk _ _ H1 locs1 hw.symm hP1 (hD1.weaken (fun k q _ h => hF q.1 h)) hS1
theorem me_callv {f : me_M} (S : CallFix p m c cc nL s args Ts own) (hM : ∀ sz, me_Cv l y ws rm D tys w (.ref b :: As) sz σ f) (cw : CallW R s args own C index y bytes maxL ret ws rm 0 0 n)
    (hrec : ∃ cell : Cell, H[b]? = some cell ∧ cell.vm.isStatics = false ∧ s.vm.findClass C = some cell.cls) (hK : va_K D vwCl tys s) (hP : va_P D vwCl (w σ) H) (hD : va_D A (w σ)) (hS : va_S A s.heap H locs) (hA : ∀ q, s.heap.size ≤ q → A q)
    (hn : As.length = n) (hsize : ls.size = nL) (hst : st = As.reverse ++ .ref b :: rest) (hW : (rest.map fun v => v.category).sum ≤ 8) (hdg : decode cc pc = .ok (.invokevirtual index, 3)) (hf : cells ≤ R.cells ∧ slots ≤ R.slots)
    (kk : ∀ (σ1 : me_M) (H1 : Heap) (locs1 : List Loc), f = σ1 → va_P D vwCl (w σ1) H1 → va_D A (w σ1) → va_S A s.heap H1 locs1 → W p l e R s m args below meth c H1 locs1 cells slots Q (F0 m (pc + 3) ls rest)) : W p l e R s m args below meth c H locs cells slots Q (F0 m pc ls st) := by
  have hF := me_free hD hS hA
  refine va_callv (va_runV (As := As) (rest := rest) S (hM H.size) cw ⟨me_blind, hrec, me_pre hK hP hD⟩ rfl hn hsize hst (by simpa using hW) hdg hf) hS (fun q _ h => hF q h) hF (fun u t H1 locs1 ht hvm hw hB hz1 hk1 hS1 => ?_)
  obtain ⟨hP1, hK1, hD1⟩ := hB
  rw [ht] at hP1
  exact kk _ H1 locs1 hw.symm hP1 (hD1.weaken (fun k q _ h => hF q.1 h)) hS1
/-- a static method of ints alone -/
def me_Cs (l : Launch) (y : MethodName) (ws : List Cond) (rm : Room) (av : List Value) (r : Int32) : Prop := Met l y ws rm (fun v _ => v = av.toArray) (QcRead r) 0 0 (fun _ => False)
theorem me_calls {r : Int32} (S : CallFix p m c cc nL s args Ts own) (hM : me_Cs l y ws rm As r) (cw : CallB R s args own index y bytes maxL ret ws rm 0 0 n ∧ (Cond.static y).before args s = true)
    (hn : As.length = n) (hsize : ls.size = nL) (hst : st = As.reverse ++ rest) (hW : (rest.map fun v => v.category).sum ≤ 8) (hdg : decode cc pc = .ok (.invokestatic index, 3)) (hf : cells ≤ R.cells ∧ slots ≤ R.slots)
    (kk : W p l e R s m args below meth c H locs cells slots Q (F0 m (pc + 3) ls (.int r :: rest))) : W p l e R s m args below meth c H locs cells slots Q (F0 m pc ls st) :=
  W.callR (a := As.toArray) (rest := rest) (W.runS (As := As) (rest := rest) S hM cw preEq rfl hn hsize hst (by simpa using hW) hdg hf) kk
/-- the end of a method of the world -/
theorem me_reti {f : Int32 × me_M} {v : Int32} (hexec : p.tables.exec = Jvm.exec) (hb : c.code = cc) {ty : FieldType} (hr : meth.sig.returnType = some ty) (hn : narrow ty (.int v) = .int v) (hlocks : meth.locks = false) (hK : va_K D vwCl tys s) (hP : va_P D vwCl (w σ) H) (hD : va_D A (w σ)) (hS : va_S A s.heap H locs) (hf : (v, σ) = f) (hdg : decode cc pc = .ok (.ireturn, 1)) :
    W p l e R s m args below meth c H locs 0 0 (MQ below (va_Qi (fun r σ' => (r, σ') = f) (me_B D tys A w) A) args s 0 0 A) (F0 m pc ls [.int v]) :=
  W.zret (v := v) hexec hb hr hn (fun t ht hW => ⟨⟨v, σ, rfl, hf, by rw [ht]; exact hP, va_K.moved hW.alike hK, hD⟩, hS.F ht⟩) hS.2.2 hdg hlocks
theorem me_retv {f : me_M} (hexec : p.tables.exec = Jvm.exec) (hb : c.code = cc) (hr : meth.sig.returnType = none) (hlocks : meth.locks = false) (hK : va_K D vwCl tys s) (hP : va_P D vwCl (w σ) H) (hD : va_D A (w σ)) (hS : va_S A s.heap H locs) (hf : σ = f) (hdg : decode cc pc = .ok (.return_, 1)) :
    W p l e R s m args below meth c H locs 0 0 (MQ below (va_Qv (fun σ' => σ' = f) (me_B D tys A w) A) args s 0 0 A) (F0 m pc ls []) :=
  W.vret hexec hb hr (fun t ht hW => ⟨⟨σ, rfl, hf, by rw [ht]; exact hP, va_K.moved hW.alike hK, hD⟩, hS.F ht⟩) hS.2.2 hdg hlocks
theorem me_retr {f v : Int32} (hexec : p.tables.exec = Jvm.exec) (hb : c.code = cc) {ty : FieldType} (hr : meth.sig.returnType = some ty) (hn : narrow ty (.int v) = .int v) (hlocks : meth.locks = false) (hK : va_K D vwCl tys s) (hP : va_P D vwCl (w σ) H) (hD : va_D A (w σ)) (hS : va_S A s.heap H locs) (hf : v = f) (hdg : decode cc pc = .ok (.ireturn, 1)) :
    W p l e R s m args below meth c H locs 0 0 (MQ below (va_Qi (fun r σ' => (r, σ') = (f, σ)) (me_B D tys A w) A) args s 0 0 A) (F0 m pc ls [.int v]) :=
  me_reti hexec hb hr hn hlocks hK hP hD hS (by rw [hf]) hdg
theorem me_callr {f : Int32} (S : CallFix p m c cc nL s args Ts own) (hM : ∀ sz, me_Ci l y ws rm D tys w (.ref b :: As) sz σ (f, σ)) (cw : CallW R s args own C index y bytes maxL ret ws rm 0 0 n)
    (hrec : ∃ cell : Cell, H[b]? = some cell ∧ cell.vm.isStatics = false ∧ s.vm.findClass C = some cell.cls) (hK : va_K D vwCl tys s) (hP : va_P D vwCl (w σ) H) (hD : va_D A (w σ)) (hS : va_S A s.heap H locs) (hA : ∀ q, s.heap.size ≤ q → A q)
    (hn : As.length = n) (hsize : ls.size = nL) (hst : st = As.reverse ++ .ref b :: rest) (hW : (rest.map fun v => v.category).sum ≤ 8) (hdg : decode cc pc = .ok (.invokevirtual index, 3)) (hf : cells ≤ R.cells ∧ slots ≤ R.slots)
    (kk : ∀ (r : Int32) (H1 : Heap) (locs1 : List Loc), f = r → va_P D vwCl (w σ) H1 → va_D A (w σ) → va_S A s.heap H1 locs1 → W p l e R s m args below meth c H1 locs1 cells slots Q (F0 m (pc + 3) ls (.int r :: rest))) : W p l e R s m args below meth c H locs cells slots Q (F0 m pc ls st) := by
  refine me_calli S hM cw hrec hK hP hD hS hA hn hsize hst hW hdg hf (fun r σ1 H1 locs1 he hP1 hD1 hS1 => ?_)
  obtain ⟨h1, h2⟩ := Prod.mk.inj he
  rw [← h2] at hP1 hD1
  exact kk r H1 locs1 h1 hP1 hD1 hS1
theorem me_rets {r v : Int32} (hexec : p.tables.exec = Jvm.exec) (hb : c.code = cc) {ty : FieldType} (hr : meth.sig.returnType = some ty) (hn : narrow ty (.int v) = .int v) (hlocks : meth.locks = false) (hf : v = r) (hdg : decode cc pc = .ok (.ireturn, 1)) :
    W p l e R s m args below meth c s.heap [] 0 0 (MQ below (QcRead r) args s 0 0 (fun _ => False)) (F0 m pc ls [.int v]) := by
  subst hf
  exact W.zret (v := v) hexec hb hr hn (fun t ht hW => ⟨rfl, ht⟩) (fun _ h => by cases h) hdg hlocks
end MEA
theorem me_inc (i : Nat) : nI i + Int32.ofInt 1 = nI (i + 1) := nI_1 i
theorem me_dec (i : Nat) : nI (i + 1) + Int32.ofInt (-1) = nI i := pk_m1 i
theorem me_inb {x : Int32} {n : Nat} (h : vp_in x n) : x.toNatClampNeg < n := Nat.not_le.mp fun q => h (Or.inr q)
theorem me_ine {x : Int32} {n : Nat} (h : vp_in x n) : x = nI x.toNatClampNeg := by
  have h0 : ¬ x < 0 := fun q => h (Or.inl q)
  obtain ⟨j, hj, rfl⟩ := nI_of h0
  rw [nI_clamp hj]
theorem me_out {x : Int32} {n : Nat} (hn : n < 2 ^ 31) (h : ∀ j, j < n → ¬ x = nI j) : x.toInt < 0 ∨ (n : Int) - 1 < x.toInt := by
  rcases pk_ix x hn with h1 | h1 | ⟨j, hj, e⟩
  · exact Or.inl (Int32.lt_iff_toInt_lt.mp h1)
  · have := Int32.le_iff_toInt_le.mp h1
    rw [nI_toInt hn] at this
    exact Or.inr (by omega)
  · exact absurd e (h j hj)
