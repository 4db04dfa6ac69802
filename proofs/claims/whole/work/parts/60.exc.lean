/-! THROWS: what a throw needs of the state (the two statics of Throwable, the words that aren't kept by themselves, the texts), and the rows -/
def ex_N (k : Nat) : String := if k = 1 then "java/lang/IndexOutOfBoundsException" else "java/lang/IllegalStateException"
def ex_B : List Cond := [.declares ⟨"java/lang/RuntimeException", "<init>", "()V"⟩, .declares ⟨"java/lang/RuntimeException", "<init>", "(Ljava/lang/String;)V"⟩, .declares ⟨"java/lang/Exception", "<init>", "()V"⟩, .declares ⟨"java/lang/Exception", "<init>", "(Ljava/lang/String;)V"⟩, .declares ⟨"java/lang/Throwable", "<init>", "()V"⟩, .declares ⟨"java/lang/Throwable", "<init>", "(Ljava/lang/String;)V"⟩, .castable "java/lang/IndexOutOfBoundsException" "java/lang/IndexOutOfBoundsException", .castable "java/lang/IllegalStateException" "java/lang/IllegalStateException"]
def ex_S : List (Nat × String) := [(76, "no such page or word"), (81, "no such count of words from there"), (85, "all is down"), (113, "no such sector to come"), (115, "all is not down"), (148, "no such place, word or sector"), (151, "no such record or what"), (154, "the mark is one number"), (138, "no such part of the disk"), (140, "no such frame or what"), (146, "no such what")]
def ex_E (sa : Nat → Nat) (A : Nat → Prop) (U : State) (H : Heap) : Prop := vx_Zq Bundle.tN "UNASSIGNED_STACK" Bundle.steD A U H ∧ vx_Zq Bundle.tN "SUPPRESSED_SENTINEL" Bundle.listD A U H ∧ (∀ w ∈ ex_B, va_Nw w U) ∧ (∀ q ∈ ex_S, vk_R RX3 q.1 q.2 (sa q.1) U)
theorem ex_B_on : ∀ w ∈ ex_B, w.onTables = true := by decide +kernel
theorem ex_B_k : ∀ w ∈ ex_B, (∃ x, w = .declares x) ∨ ∃ C T, w = .castable C T := by
  intro w hw
  simp only [ex_B, List.mem_cons, List.not_mem_nil, or_false] at hw
  rcases hw with rfl | rfl | rfl | rfl | rfl | rfl | rfl | rfl
  · exact Or.inl ⟨_, rfl⟩
  · exact Or.inl ⟨_, rfl⟩
  · exact Or.inl ⟨_, rfl⟩
  · exact Or.inl ⟨_, rfl⟩
  · exact Or.inl ⟨_, rfl⟩
  · exact Or.inl ⟨_, rfl⟩
  · exact Or.inr ⟨_, _, rfl⟩
  · exact Or.inr ⟨_, _, rfl⟩
theorem ex_E.warm {sa : Nat → Nat} {A : Nat → Prop} {s U : State} {H : Heap} (hW : s.WarmedH U.vm) (h : ex_E sa A s H) : ex_E sa A U H := by
  refine ⟨h.1.moved hW.alike, h.2.1.moved hW.alike, fun w hw => ?_, fun q hq => vk_R.warm hW (h.2.2.2 q hq)⟩
  have h1 := h.2.2.1 w hw
  rcases ex_B_k w hw with ⟨x, rfl⟩ | ⟨C, T, rfl⟩
  · exact va_Nw.warmD hW h1
  · exact va_Nw.warmC hW h1
theorem ex_E.same {sa : Nat → Nat} {A : Nat → Prop} {u U : State} {H : Heap} (hv : u.vm = U.vm) (h : ex_E sa A u H) : ex_E sa A U H := by
  have ha : u.vm.Alike U.vm := by rw [hv]; exact Vm.Alike.refl _
  exact ⟨h.1.moved ha, h.2.1.moved ha, fun w hw => va_Nw.same (ex_B_on w hw) hv (h.2.2.1 w hw), fun q hq => vk_R.same hv.symm (h.2.2.2 q hq)⟩
theorem ex_E.kept {sa : Nat → Nat} {A : Nat → Prop} {U : State} {H H1 : Heap} (h : ex_E sa A U H) (hq : ∀ a : Nat, a < H.size → ¬ A a → H1[a]? = H[a]?) : ex_E sa A U H1 := ⟨h.1.kept hq, h.2.1.kept hq, h.2.2.1, h.2.2.2⟩
theorem ex_E.narrow {sa : Nat → Nat} {A B : Nat → Prop} {U : State} {H : Heap} (h : ex_E sa A U H) (hAB : ∀ q, B q → A q) : ex_E sa B U H := ⟨h.1.narrow hAB, h.2.1.narrow hAB, h.2.2.1, h.2.2.2⟩
/-- a method that answers or throws: (0, answer, memory behind) or (which, 0, memory behind) -/
abbrev me_F : Type := Nat × Int32 × me_M
def me_Pe (D : va_G) (tys : List (ClassId × FieldType)) (w : va_W) (sz : Nat) (sa : Nat → Nat) : State → Prop := fun U => me_P D tys w sz U ∧ ex_E sa (va_A w sz) U U.heap
def me_X (D : va_G) (tys : List (ClassId × FieldType)) (A : Nat → Prop) (w : me_M → va_W) (f : me_F) : String → State → State → Prop := vx_X (fun u : Nat × me_M => 0 < u.1 ∧ (u.1, (0 : Int32), u.2) = f) (fun E u t => E = ex_N u.1 ∧ me_B D tys A w u.2 t) A
def me_Xi (l : Launch) (y : MethodName) (ws : List Cond) (rm : Room) (D : va_G) (tys : List (ClassId × FieldType)) (w : me_M → va_W) (av : List Value) (sz : Nat) (σ : me_M) (sa : Nat → Nat) (f : me_F) : Prop :=
  vx_Met l y ws rm (va_Pc av (me_Pe D tys (w σ) sz sa)) (va_Qi (fun r σ' => (0, r, σ') = f) (me_B D tys (va_A (w σ) sz) w) (va_A (w σ) sz)) (me_X D tys (va_A (w σ) sz) w f) 1 6 (va_A (w σ) sz)
def me_Xv (l : Launch) (y : MethodName) (ws : List Cond) (rm : Room) (D : va_G) (tys : List (ClassId × FieldType)) (w : me_M → va_W) (av : List Value) (sz : Nat) (σ : me_M) (sa : Nat → Nat) (f : me_F) : Prop :=
  vx_Met l y ws rm (va_Pc av (me_Pe D tys (w σ) sz sa)) (va_Qv (fun σ' => (0, (0 : Int32), σ') = f) (me_B D tys (va_A (w σ) sz) w) (va_A (w σ) sz)) (me_X D tys (va_A (w σ) sz) w f) 1 6 (va_A (w σ) sz)
theorem me_blindE {D : va_G} {tys : List (ClassId × FieldType)} {w : va_W} {sz : Nat} {av : List Value} {sa : Nat → Nat} : FrameBlind (va_Pc av (me_Pe D tys w sz sa)) := fun a U g mk q => by
  obtain ⟨q0, ⟨q1, qP, qK, qD⟩, qE⟩ := q
  exact ⟨q0, ⟨q1, qP, va_K.moved (u := U) (U := U.calling g mk a) (Vm.Alike.refl U.vm) qK, qD⟩, ex_E.same (u := U) (U := U.calling g mk a) rfl qE⟩
theorem me_preE {D : va_G} {tys : List (ClassId × FieldType)} {w : va_W} {av : List Value} {A : Nat → Prop} {s : State} {H : Heap} {locs : List Loc} {sa : Nat → Nat} (hK : va_K D vwCl tys s) (hP : va_P D vwCl w H) (hD : va_D A w) (hS : va_S A s.heap H locs) (hA : ∀ q, s.heap.size ≤ q → A q) (hE : ex_E sa A s s.heap) : ∀ U : State, U.heap = H → s.WarmedH U.vm → va_Pc av (me_Pe D tys w H.size sa) av.toArray U :=
  fun U hU hW => ⟨rfl, (me_pre (av := av) hK hP hD U hU hW).2, by
    rw [hU]
    exact (((hE.kept (fun a ha hna => hS.2.1 a ha hna)).narrow (me_free hD hS hA)).warm hW)⟩
section EXA
variable {p : Program} {l : Launch} {e : Env} {R : Room} {s : State} {m : MethodId} {args : Array Value} {below : List Frame} {meth : Method} {c : Code} {H : Heap} {locs : List Loc} {cells slots : Nat} {Q : State → Prop}
variable {cc : ByteArray} {pc : Nat} {ls : Array Slot} {rest st : List Value} {D : va_G} {A : Nat → Prop} {b : Nat} {tys : List (ClassId × FieldType)} {σ : me_M} {w : me_M → va_W} {sa : Nat → Nat}
variable {y : MethodName} {bytes : ByteArray} {maxL nL n index : Nat} {ret : Option FieldType} {ws : List Cond} {rm : Room} {Ts : List Cond} {own C : String} {As : List Value}
theorem me_xreti {f : me_F} {XC : String → State → State → Prop} {v : Int32} (hexec : p.tables.exec = Jvm.exec) (hb : c.code = cc) {ty : FieldType} (hr : meth.sig.returnType = some ty) (hn : narrow ty (.int v) = .int v) (hlocks : meth.locks = false) (hK : va_K D vwCl tys s) (hP : va_P D vwCl (w σ) H) (hD : va_D A (w σ)) (hS : va_S A s.heap H locs) (hc : cells ≤ 1) (hs : slots ≤ 6) (hf : (0, v, σ) = f) (hdg : decode cc pc = .ok (.ireturn, 1)) :
    W p l e R s m args below meth c H locs cells slots (vx_MQ below (va_Qi (fun r σ' => (0, r, σ') = f) (me_B D tys A w) A) XC args s 1 6 A) (F0 m pc ls [.int v]) :=
  W.widen (k := 1) (n := 6) hc hs (vx_ret (W.zret (v := v) hexec hb hr hn (fun t ht hW => ⟨⟨v, σ, rfl, hf, by rw [ht]; exact hP, va_K.moved hW.alike hK, hD⟩, hS.F ht⟩) hS.2.2 hdg hlocks))
theorem me_xretv {f : me_F} {XC : String → State → State → Prop} (hexec : p.tables.exec = Jvm.exec) (hb : c.code = cc) (hr : meth.sig.returnType = none) (hlocks : meth.locks = false) (hK : va_K D vwCl tys s) (hP : va_P D vwCl (w σ) H) (hD : va_D A (w σ)) (hS : va_S A s.heap H locs) (hc : cells ≤ 1) (hs : slots ≤ 6) (hf : (0, (0 : Int32), σ) = f) (hdg : decode cc pc = .ok (.return_, 1)) :
    W p l e R s m args below meth c H locs cells slots (vx_MQ below (va_Qv (fun σ' => (0, (0 : Int32), σ') = f) (me_B D tys A w) A) XC args s 1 6 A) (F0 m pc ls []) :=
  W.widen (k := 1) (n := 6) hc hs (vx_ret (W.vret hexec hb hr (fun t ht hW => ⟨⟨σ, rfl, hf, by rw [ht]; exact hP, va_K.moved hW.alike hK, hD⟩, hS.F ht⟩) hS.2.2 hdg hlocks))
/-- new X(text), thrown -/
theorem me_xthr {f : me_F} {Qc : Array Value → State → Outcome → State → Prop} (hexec : p.tables.exec = Jvm.exec) (hb : c.code = cc) (hl : l.stackTraces = false) {text : String} {names : List String} {ik is ic : Nat} (k : Nat)
    (hown : s.vm.findClass own = some m.cls) (hO : own = RX3) (hcls : Bundle.fit (ex_N k) = true) (hnames : ∀ n ∈ names, Bundle.fit n = true) (hk : (Cond.classLink own ik (ex_N k)).before args s = true) (hini : (Cond.initialized (ex_N k)).before args s = true) (hq : (is, text) ∈ ex_S)
    (h1 : ∀ w ∈ (vx_atS own ic (ex_N k) names).filter goodWord, w.before args s = true) (h2 : ∀ w ∈ (vx_atS own ic (ex_N k) names).filter (fun w => !goodWord w), w ∈ ex_B) (hgood : ∀ w ∈ Cond.classLink own ik (ex_N k) :: Cond.initialized (ex_N k) :: vx_atS own ic (ex_N k) names, vx_ot w = true)
    (hE : ex_E sa A s s.heap) (hK : va_K D vwCl tys s) (hP : va_P D vwCl (w σ) H) (hD : va_D A (w σ)) (hS : va_S A s.heap H locs) (hsize : ls.size = c.maxLocals)
    (d0 : decode cc pc = .ok (.new ik, 3)) (d3 : decode cc (pc + 3) = .ok (.dup, 1)) (d4 : decode cc (pc + 4) = .ok (.ldc is, 2)) (d6 : decode cc (pc + 6) = .ok (.invokespecial ic, 3)) (d9 : decode cc (pc + 9) = .ok (.athrow, 1)) (ht : ∀ x ∈ c.exceptionTable.toList, False)
    (hRframes : names.length + 3 < R.frames) (hRlocals : (rest.map fun v => v.category).sum + (13 * (names.length + 1) + 43) ≤ R.locals) (hRcells : 1 ≤ R.cells) (hRslots : 6 ≤ R.slots) (hlocks : meth.locks = false) (h0 : 0 < k) (hf : (k, (0 : Int32), σ) = f) :
    W p l e R s m args below meth c H locs 0 0 (vx_MQ below Qc (me_X D tys A w f) args s 1 6 A) (F0 m pc ls rest) := by
  subst hO
  refine vx_throwS (A := A) (text := text) (sa := sa is) hexec hb hl hown hcls hnames hk hini (hE.2.2.2 (is, text) hq) (vx_hat h1 h2 (fun w hw => va_Nw.use (ex_B_on w hw) (hE.2.2.1 w hw))) hgood hE.1 hE.2.1 hS hsize d0 d3 d4 d6 d9 (fun x hx => (ht x hx).elim) hRframes hRlocals (by omega) (by omega) hlocks (fun t hvm hz hk9 => ?_) hS.2.2 (by omega) (by omega)
  refine ⟨(k, σ), ⟨h0, hf⟩, ⟨rfl, hP.kept (fun j q hj => hk9 q.1 (hP j q hj).lt), va_K.moved hvm hK, hD⟩, Nat.le_trans hS.1 hz, fun q h1 h2 => ?_⟩
  rw [hk9 q (Nat.lt_of_lt_of_le h1 hS.1)]
  exact hS.2.1 q h1 h2
/-- a call of a method that may throw, of an object of the world -/
theorem me_xcalli {f : me_F} (S : CallFix p m c cc nL s args Ts own) (hM : ∀ sz, me_Xi l y ws rm D tys w (.ref b :: As) sz σ sa f) (cw : CallW R s args own C index y bytes maxL ret ws rm 1 6 n)
    (hrec : ∃ cell : Cell, H[b]? = some cell ∧ cell.vm.isStatics = false ∧ s.vm.findClass C = some cell.cls) (hE : ex_E sa A s s.heap) (hK : va_K D vwCl tys s) (hP : va_P D vwCl (w σ) H) (hD : va_D A (w σ)) (hS : va_S A s.heap H locs) (hA : ∀ q, s.heap.size ≤ q → A q)
    (hn : As.length = n) (hsize : ls.size = nL) (hst : st = As.reverse ++ .ref b :: rest) (hW : (rest.map fun v => v.category).sum ≤ 8) (hdg : decode cc pc = .ok (.invokevirtual index, 3)) (hf : cells + 1 ≤ R.cells ∧ slots + 6 ≤ R.slots)
    (kx : ∀ (k : Nat) (σ1 : me_M) (H1 : Heap) (locs1 : List Loc) (q9 : Addr) (ce : Cell), 0 < k → f = (k, (0 : Int32), σ1) → va_P D vwCl (w σ1) H1 → va_D A (w σ1) → va_S A s.heap H1 locs1 → H1[q9]? = some ce → ce.vm = .none → s.vm.findClass (ex_N k) = some ce.cls → vx_W p l e R s m args below meth c H1 locs1 (cells + 1) (slots + 6) Q (F0 m pc ls rest) q9)
    (kk : ∀ (r : Int32) (σ1 : me_M) (H1 : Heap) (locs1 : List Loc), f = (0, r, σ1) → va_P D vwCl (w σ1) H1 → va_D A (w σ1) → va_S A s.heap H1 locs1 → W p l e R s m args below meth c H1 locs1 (cells + 1) (slots + 6) Q (F0 m (pc + 3) ls (.int r :: rest))) : W p l e R s m args below meth c H locs cells slots Q (F0 m pc ls st) := by
  have hF := me_free hD hS hA
  refine vx_calli (vx_runV (As := As) (rest := rest) S (hM H.size) cw ⟨me_blindE, hrec, me_preE hK hP hD hS hA hE⟩ rfl hn hsize hst (by simpa using hW) hdg hf) hS (fun q _ h => hF q h) hF (fun q _ h => hF q h) (fun E ce q9 u t H1 locs1 ht hvm hw hB hz1 hk1 hS1 hc1 hc2 hc3 => ?_) (fun r u t H1 locs1 ht hvm hw hB hz1 hk1 hS1 => ?_)
  · obtain ⟨rfl, hP1, hK1, hD1⟩ := hB
    rw [ht] at hP1
    exact kx u.1 u.2 H1 locs1 q9 ce hw.1 hw.2.symm hP1 (hD1.weaken (fun k q _ h => hF q.1 h)) hS1 hc1 hc2 hc3
  · obtain ⟨hP1, hK1, hD1⟩ := hB
    rw [ht] at hP1
    exact kk r u H1 locs1 hw.symm hP1 (hD1.weaken (fun k q _ h => hF q.1 h)) hS1
theorem me_xcallv {f : me_F} (S : CallFix p m c cc nL s args Ts own) (hM : ∀ sz, me_Xv l y ws rm D tys w (.ref b :: As) sz σ sa f) (cw : CallW R s args own C index y bytes maxL ret ws rm 1 6 n)
    (hrec : ∃ cell : Cell, H[b]? = some cell ∧ cell.vm.isStatics = false ∧ s.vm.findClass C = some cell.cls) (hE : ex_E sa A s s.heap) (hK : va_K D vwCl tys s) (hP : va_P D vwCl (w σ) H) (hD : va_D A (w σ)) (hS : va_S A s.heap H locs) (hA : ∀ q, s.heap.size ≤ q → A q)
    (hn : As.length = n) (hsize : ls.size = nL) (hst : st = As.reverse ++ .ref b :: rest) (hW : (rest.map fun v => v.category).sum ≤ 8) (hdg : decode cc pc = .ok (.invokevirtual index, 3)) (hf : cells + 1 ≤ R.cells ∧ slots + 6 ≤ R.slots)
    (kx : ∀ (k : Nat) (σ1 : me_M) (H1 : Heap) (locs1 : List Loc) (q9 : Addr) (ce : Cell), 0 < k → f = (k, (0 : Int32), σ1) → va_P D vwCl (w σ1) H1 → va_D A (w σ1) → va_S A s.heap H1 locs1 → H1[q9]? = some ce → ce.vm = .none → s.vm.findClass (ex_N k) = some ce.cls → vx_W p l e R s m args below meth c H1 locs1 (cells + 1) (slots + 6) Q (F0 m pc ls rest) q9)
    (kk : ∀ (σ1 : me_M) (H1 : Heap) (locs1 : List Loc), f = (0, (0 : Int32), σ1) → va_P D vwCl (w σ1) H1 → va_D A (w σ1) → va_S A s.heap H1 locs1 → W p l e R s m args below meth c H1 locs1 (cells + 1) (slots + 6) Q (F0 m (pc + 3) ls rest)) : W p l e R s m args below meth c H locs cells slots Q (F0 m pc ls st) := by
  have hF := me_free hD hS hA
  refine vx_callv (vx_runV (As := As) (rest := rest) S (hM H.size) cw ⟨me_blindE, hrec, me_preE hK hP hD hS hA hE⟩ rfl hn hsize hst (by simpa using hW) hdg hf) hS (fun q _ h => hF q h) hF (fun q _ h => hF q h) (fun E ce q9 u t H1 locs1 ht hvm hw hB hz1 hk1 hS1 hc1 hc2 hc3 => ?_) (fun u t H1 locs1 ht hvm hw hB hz1 hk1 hS1 => ?_)
  · obtain ⟨rfl, hP1, hK1, hD1⟩ := hB
    rw [ht] at hP1
    exact kx u.1 u.2 H1 locs1 q9 ce hw.1 hw.2.symm hP1 (hD1.weaken (fun k q _ h => hF q.1 h)) hS1 hc1 hc2 hc3
  · obtain ⟨hP1, hK1, hD1⟩ := hB
    rw [ht] at hP1
    exact kk u H1 locs1 hw.symm hP1 (hD1.weaken (fun k q _ h => hF q.1 h)) hS1
theorem me_xcalls {f : me_F} (S : CallFix p m c cc nL s args Ts own) (hM : ∀ sz, me_Xi l y ws rm D tys w As sz σ sa f) (cw : CallB R s args own index y bytes maxL ret ws rm 1 6 n ∧ (Cond.static y).before args s = true)
    (hE : ex_E sa A s s.heap) (hK : va_K D vwCl tys s) (hP : va_P D vwCl (w σ) H) (hD : va_D A (w σ)) (hS : va_S A s.heap H locs) (hA : ∀ q, s.heap.size ≤ q → A q)
    (hn : As.length = n) (hsize : ls.size = nL) (hst : st = As.reverse ++ rest) (hW : (rest.map fun v => v.category).sum ≤ 8) (hdg : decode cc pc = .ok (.invokestatic index, 3)) (hf : cells + 1 ≤ R.cells ∧ slots + 6 ≤ R.slots)
    (kx : ∀ (k : Nat) (σ1 : me_M) (H1 : Heap) (locs1 : List Loc) (q9 : Addr) (ce : Cell), 0 < k → f = (k, (0 : Int32), σ1) → va_P D vwCl (w σ1) H1 → va_D A (w σ1) → va_S A s.heap H1 locs1 → H1[q9]? = some ce → ce.vm = .none → s.vm.findClass (ex_N k) = some ce.cls → vx_W p l e R s m args below meth c H1 locs1 (cells + 1) (slots + 6) Q (F0 m pc ls rest) q9)
    (kk : ∀ (r : Int32) (σ1 : me_M) (H1 : Heap) (locs1 : List Loc), f = (0, r, σ1) → va_P D vwCl (w σ1) H1 → va_D A (w σ1) → va_S A s.heap H1 locs1 → W p l e R s m args below meth c H1 locs1 (cells + 1) (slots + 6) Q (F0 m (pc + 3) ls (.int r :: rest))) : W p l e R s m args below meth c H locs cells slots Q (F0 m pc ls st) := by
  have hF := me_free hD hS hA
  refine vx_calli (vx_runS (As := As) (rest := rest) S (hM H.size) cw ⟨me_blindE, me_preE hK hP hD hS hA hE⟩ rfl hn hsize hst (by simpa using hW) hdg hf) hS (fun q _ h => hF q h) hF (fun q _ h => hF q h) (fun E ce q9 u t H1 locs1 ht hvm hw hB hz1 hk1 hS1 hc1 hc2 hc3 => ?_) (fun r u t H1 locs1 ht hvm hw hB hz1 hk1 hS1 => ?_)
  · obtain ⟨rfl, hP1, hK1, hD1⟩ := hB
    rw [ht] at hP1
    exact kx u.1 u.2 H1 locs1 q9 ce hw.1 hw.2.symm hP1 (hD1.weaken (fun k q _ h => hF q.1 h)) hS1 hc1 hc2 hc3
  · obtain ⟨hP1, hK1, hD1⟩ := hB
    rw [ht] at hP1
    exact kk r u H1 locs1 hw.symm hP1 (hD1.weaken (fun k q _ h => hF q.1 h)) hS1
/-- it goes on to the caller -/
theorem me_xout {f : me_F} {Qc : Array Value → State → Outcome → State → Prop} {k : Nat} {q9 : Addr} {ce : Cell} (ht : ∀ x ∈ c.exceptionTable.toList, False) (hlocks : meth.locks = false) (hK : va_K D vwCl tys s) (hP : va_P D vwCl (w σ) H) (hD : va_D A (w σ)) (hS : va_S A s.heap H locs) (hc1 : H[q9]? = some ce) (hc2 : ce.vm = .none) (hc3 : s.vm.findClass (ex_N k) = some ce.cls) (h0 : 0 < k) (hf : (k, (0 : Int32), σ) = f) :
    vx_W p l e R s m args below meth c H locs 1 6 (vx_MQ below Qc (me_X D tys A w f) args s 1 6 A) (F0 m pc ls rest) q9 :=
  vx_out (fun x hx => (ht x hx).elim) hlocks hc1 hc2 hc3 (fun t hth hvm => ⟨(k, σ), ⟨h0, hf⟩, ⟨rfl, by rw [hth]; exact hP, va_K.moved hvm hK, hD⟩, hS.F hth⟩) hS.2.2 (Nat.le_refl _) (Nat.le_refl _)
end EXA
def ex_nm : List String := ["java/lang/RuntimeException", "java/lang/Exception"]
theorem ex_b1 : ∀ w ∈ (vx_atS RX3 78 (ex_N 1) ex_nm).filter (fun w => !goodWord w), w ∈ ex_B := by decide +kernel
theorem ex_b2 : ∀ w ∈ (vx_atS RX3 87 (ex_N 2) ex_nm).filter (fun w => !goodWord w), w ∈ ex_B := by decide +kernel
theorem ex_g1 : ∀ w ∈ Cond.classLink RX3 74 (ex_N 1) :: Cond.initialized (ex_N 1) :: vx_atS RX3 78 (ex_N 1) ex_nm, vx_ot w = true := by decide +kernel
theorem ex_g2 : ∀ w ∈ Cond.classLink RX3 83 (ex_N 2) :: Cond.initialized (ex_N 2) :: vx_atS RX3 87 (ex_N 2) ex_nm, vx_ot w = true := by decide +kernel
theorem ex_f1 : Bundle.fit (ex_N 1) = true := by decide +kernel
theorem ex_f2 : Bundle.fit (ex_N 2) = true := by decide +kernel
theorem ex_fn : ∀ n ∈ ex_nm, Bundle.fit n = true := by decide +kernel
